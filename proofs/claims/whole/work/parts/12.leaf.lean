/-! ===== the class: texts, plans, sightings, sheets ===== -/
theorem nr_3 {k : Nat} (h : k < 2 ^ 31) : nI k - nI k / 3 * 3 = nI (k % 3) := pk_rem h (by decide) (by decide)
theorem nd_3 {k : Nat} (h : k < 2 ^ 31) : nI k / 3 = nI (k / 3) := pk_div h (by decide) (by decide)
theorem ne_0 {k : Nat} (h : k < 2 ^ 31) : (nI k = 0) = (k = 0) := propext (nI_eq h (by decide))
theorem ne_1 {k : Nat} (h : k < 2 ^ 31) : (nI k = 1) = (k = 1) := propext (nI_eq h (by decide))
theorem ne_2 {k : Nat} (h : k < 2 ^ 31) : (nI k = 2) = (k = 2) := propext (nI_eq h (by decide))
theorem ne_8 {k : Nat} (h : k < 2 ^ 31) : (nI k = 8) = (k = 8) := propext (nI_eq h (by decide))
theorem ne_m1 {k : Nat} (h : k < 2 ^ 31) : (nI k = -1) = False := by
  apply propext
  constructor
  · intro e
    have := congrArg Int32.toInt e
    rw [nI_toInt h] at this
    have h2 : (-1 : Int32).toInt = -1 := by decide
    rw [h2] at this
    omega
  · exact False.elim
theorem i3_0 : ((3 : Int32) = 0) = False := by decide
theorem c3_0 : (¬ (3 : Int32) = 0) = True := by decide
def c16 (b : Int32) : Int32 := (b.toUInt32 % 65536).toInt32
/-- whether the k-th byte fits: 1 or 0 -/
def sp_ft (H : Nat) (lf : Int32) (f : Nat → Int32) (k : Nat) : Int32 := if k % 3 = 0 then (if zsx H (c16 (f k)) < 0 then 0 else 1) else if k % 3 = 1 then (if f k < 48 + lf then 0 else if 57 < f k then 0 else 1) else if f k = 59 then 1 else 0
def sp_fl (ft : Nat → Int32) (e : Int32) : Nat → Nat → Int32
  | 0, _ => e
  | d + 1, k => if ft k = 0 then nI k else sp_fl ft e d (k + 1)
def sp_fe (l : Nat) : Int32 := if l = 0 then -1 else if l % 3 = 2 then -1 else nI l
/-- the place of the fault -/
def sp_fp (H : Nat) (lf : Int32) (f : Nat → Int32) (l : Nat) : Int32 := sp_fl (sp_ft H lf f) (sp_fe l) l 0
/-- how many pairs -/
def sp_pn (H : Nat) (lf : Int32) (f : Nat → Int32) (l : Nat) : Nat := if sp_fp H lf f l = -1 then (l + 1) / 3 else 0
def sp_hd (H : Nat) (f : Nat → Int32) (j : Nat) : Int32 := zsx H (c16 (f (3 * j)))
def sp_fg (f : Nat → Int32) (j : Nat) : Int32 := f (3 * j + 1) - 48
def zro (n : Nat) (h : Nat → Int32) (f : Nat → Int32) : Nat → Int32 := fun j => if j < n then h j else f j
theorem zro_upd (n : Nat) (h f : Nat → Int32) : upd (zro n h f) n (h n) = zro (n + 1) h f := by
  funext j
  simp only [upd, zro]
  by_cases h1 : j = n
  · subst h1; simp
  · by_cases h2 : j < n
    · simp [h1, h2, Nat.lt_succ_of_lt h2]
    · simp [h1, h2, show ¬ j < n + 1 by omega]
theorem zro_0 (h f : Nat → Int32) : zro 0 h f = f := by funext j; simp [zro]
theorem sp_fl_m1 {ft : Nat → Int32} {e : Int32} : ∀ (d k : Nat), k + d < 1000 → sp_fl ft e d k = -1 → e = -1 ∧ ∀ j, k ≤ j → j < k + d → ¬ ft j = 0 := by
  intro d
  induction d with
  | zero => intro k _ h; exact ⟨h, fun j h1 h2 => by omega⟩
  | succ d ih =>
    intro k hk h
    rw [sp_fl] at h
    by_cases h1 : ft k = 0
    · rw [if_pos h1, ne_m1 (by omega)] at h
      exact h.elim
    · rw [if_neg h1] at h
      obtain ⟨h2, h3⟩ := ih (k + 1) (by omega) h
      refine ⟨h2, fun j j1 j2 => ?_⟩
      by_cases hj : j = k
      · rw [hj]; exact h1
      · exact h3 j (by omega) (by omega)
theorem sp_fe_m1 {l : Nat} (hl : l < 1000) (h : sp_fe l = -1) : l = 0 ∨ l % 3 = 2 := by
  unfold sp_fe at h
  by_cases h1 : l = 0
  · exact Or.inl h1
  · by_cases h2 : l % 3 = 2
    · exact Or.inr h2
    · rw [if_neg h1, if_neg h2, ne_m1 (by omega)] at h
      exact h.elim
theorem sp_pn_le {H : Nat} {lf : Int32} {f : Nat → Int32} {l : Nat} (hl : l < 1000) : sp_pn H lf f l = 0 ∨ 3 * sp_pn H lf f l = l + 1 := by
  unfold sp_pn
  by_cases h : sp_fp H lf f l = -1
  · rw [if_pos h]
    rcases sp_fe_m1 hl (sp_fl_m1 l 0 (by omega) h).1 with h1 | h1
    · subst h1; exact Or.inl rfl
    · right; omega
  · rw [if_neg h]; exact Or.inl rfl
/-! String.indexOf on the three constants -/
def sfi (q : Nat) (ch : Int32) : Nat → Nat → Int32
  | 0, _ => -1
  | d + 1, k => if zsb q k = ch then nI k else sfi q ch d (k + 1)
def six (q n : Nat) (x : Int32) : Int32 := if x < 0 then -1 else if 255 < x then -1 else sfi q x.toInt8.toInt32 n 0
theorem fidx_none {l : List Int32} {x : Int32} (h : ∀ y ∈ l, y ≠ x) : l.findIdx? (fun y => y == x) = none := by
  rw [List.findIdx?_eq_none_iff]
  intro y hy
  simpa using h y hy
theorem six_ok {a q n : Nat} (hs : (a = 1001 ∧ q = 1011 ∧ n = 3) ∨ (a = 1002 ∧ q = 1012 ∧ n = 3) ∨ (a = 1003 ∧ q = 1013 ∧ n = 6)) (x : Int32) : six q n x = zsx a x := by
  have hb : ∀ y ∈ zsL a, (0 : Int32) ≤ y ∧ y ≤ 255 := by
    rcases hs with ⟨rfl, -⟩ | ⟨rfl, -⟩ | ⟨rfl, -⟩ <;> decide
  have out : (∀ y ∈ zsL a, y ≠ x) → zsx a x = -1 := by
    intro h
    unfold zsx
    rw [fidx_none h]
  unfold six
  by_cases h1 : x < 0
  · rw [if_pos h1, out]
    intro y hy e
    have := (hb y hy).1
    rw [e] at this
    exact nlt32.mp this h1
  · rw [if_neg h1]
    by_cases h2 : 255 < x
    · rw [if_pos h2, out]
      intro y hy e
      have := (hb y hy).2
      rw [e] at this
      exact nlt32.mp this h2
    · rw [if_neg h2]
      obtain ⟨k, hk, rfl⟩ := nI_of2 (x := x) (M := 255) (n := 255) (by decide) h1 (nlt32.mpr h2)
      have hk : k < 256 := by omega
      rcases hs with ⟨rfl, rfl, rfl⟩ | ⟨rfl, rfl, rfl⟩ | ⟨rfl, rfl, rfl⟩
      · have : ∀ k, k < 256 → sfi 1011 (nI k).toInt8.toInt32 3 0 = zsx 1001 (nI k) := by decide +kernel
        exact this k hk
      · have : ∀ k, k < 256 → sfi 1012 (nI k).toInt8.toInt32 3 0 = zsx 1002 (nI k) := by decide +kernel
        exact this k hk
      · have : ∀ k, k < 256 → sfi 1013 (nI k).toInt8.toInt32 6 0 = zsx 1003 (nI k) := by decide +kernel
        exact this k hk
theorem ofn (n : Nat) : Int32.ofNat n = nI n := rfl
theorem sr0 (n : Nat) : nI n >>> ((0 : Int32) &&& 31) = nI n := by
  have : ((0 : Int32) &&& 31) = 0 := by decide
  rw [this]
  exact Int32.shiftRight_zero
section
variable {xl : Nat} {I : zI} {J : zJ} {Q : zQ}
theorem c_iOC_1001 {x : Int32} : Rn (zG xl) 196 0 [.ref 1011, .int x, .int 0, .int (nI 3), .null, .null] [] I J Q = Q (some (.int (sfi 1011 x.toInt8.toInt32 3 0))) I J := by
  simp only [x196_0, x196_1, x196_2, x196_4, x196_5, x196_9, x196_10, x196_13, x196_14, x196_16, x196_17, x196_19, x196_22, x196_24, x196_25, x196_28, x196_31, x196_32, ↓reduceIte, zkl_i, zkl_r, zkl_n, zkl_z, zkl_l, Option.toList_some, Option.toList_none, List.cons_append, List.nil_append, zcs_0, zcs_i, zcs_l, zcs_r, zle8, true_and, and_true, true_or, or_true]
  have key : ∀ (d k : Nat), k + d = 3 → Rn (zG xl) 196 7 [.ref 1011, .int x, .int 0, .int (nI 3), .int x.toInt8.toInt32, .int (nI k)] [] I J Q = Q (some (.int (sfi 1011 x.toInt8.toInt32 d k))) I J := by
    intro d
    induction d with
    | zero =>
      intro k h
      have h : k = 3 := h
      subst h
      rw [h196_7, sfi]
      simp (disch := omega) only [x196_0, x196_1, x196_2, x196_4, x196_5, x196_9, x196_10, x196_13, x196_14, x196_16, x196_17, x196_19, x196_22, x196_24, x196_25, x196_28, x196_31, x196_32, ↓reduceIte, zkl_i, zkl_r, zkl_n, zkl_z, zkl_l, Option.toList_some, Option.toList_none, List.cons_append, List.nil_append, zcs_0, zcs_i, zcs_l, zcs_r, zle8, true_and, and_true, true_or, or_true, nI_ltI, Nat.lt_irrefl, if_false]
    | succ d ih =>
      intro k h
      have hk : k < 3 := by omega
      rw [h196_7, sfi]
      simp (disch := omega) only [x196_0, x196_1, x196_2, x196_4, x196_5, x196_9, x196_10, x196_13, x196_14, x196_16, x196_17, x196_19, x196_22, x196_24, x196_25, x196_28, x196_31, x196_32, bb_1011, zbv_1011, ↓reduceIte, zkl_i, zkl_r, zkl_n, zkl_z, zkl_l, Option.toList_some, Option.toList_none, List.cons_append, List.nil_append, zcs_0, zcs_i, zcs_l, zcs_r, zle8, true_and, and_true, true_or, or_true, nI_ltI, hk, if_true, ixN_nI, nI_clamp, na_1]
      rw [ih (k + 1) (by omega)]
      simp only [ite_QQ Q, ite_sm, ite_vi, ite_vl, ite_self]
  exact key 3 0 (Nat.zero_add _)
theorem c_idx_1001 {x : Int32} : Rn (zG xl) 190 0 [.ref 1001, .int x] [] I J Q = Q (some (.int (zsx 1001 x))) I J := by
  have hk : ¬ zkd (zG xl) 1011 = 99 := by rw [ak_1011]; decide
  have h03 : (0 : Int32) < nI 3 := by decide
  simp only [x190_0, x190_1, x190_2, x190_3, x190_6, x191_0, x191_1, x191_4, x191_7, x191_8, x191_11, x191_12, x191_13, x191_14, x191_17, x191_20, x191_23, x191_24, x191_27, x191_28, x191_29, x191_30, x191_36, x193_0, x193_3, x193_6, x193_7, x193_10, x193_13, x193_14, x193_17, x193_18, x189_0, x189_1, x189_4, x189_5, x189_6, x189_9, x189_10, x192_0, x192_3, x192_6, x192_7, x192_10, x192_13, x192_14, x195_0, x195_1, x195_4, x195_7, x195_8, x195_9, x195_10, x195_11, x195_14, x195_15, x195_16, x195_17, x195_18, x195_21, x195_22, x195_23, x195_24, x195_27, x195_28, x195_29, x195_30, x195_31, x195_32, x195_33, x195_36, x194_0, x194_1, x194_4, x194_5, x194_8, x194_11, x194_12, x194_15, x194_16, ↓reduceIte, zkl_i, zkl_r, zkl_n, zkl_z, zkl_l, Option.toList_some, Option.toList_none, List.cons_append, List.nil_append, zcs_0, zcs_i, zcs_l, zcs_r, zle8, true_and, and_true, true_or, or_true, gc_1001, i1_0, Nat.reduceAdd, hk, not_false_eq_true, al_1011, ofn, sr0, ite_self, h03, c_iOC_1001, Nat.reduceLeDiff]
  rw [← six_ok (a := 1001) (q := 1011) (n := 3) (by decide), six]
  simp only [ite_QQ Q, ite_sm, ite_vi, ite_vl, ite_self]
theorem c_iOC_1002 {x : Int32} : Rn (zG xl) 196 0 [.ref 1012, .int x, .int 0, .int (nI 3), .null, .null] [] I J Q = Q (some (.int (sfi 1012 x.toInt8.toInt32 3 0))) I J := by
  simp only [x196_0, x196_1, x196_2, x196_4, x196_5, x196_9, x196_10, x196_13, x196_14, x196_16, x196_17, x196_19, x196_22, x196_24, x196_25, x196_28, x196_31, x196_32, ↓reduceIte, zkl_i, zkl_r, zkl_n, zkl_z, zkl_l, Option.toList_some, Option.toList_none, List.cons_append, List.nil_append, zcs_0, zcs_i, zcs_l, zcs_r, zle8, true_and, and_true, true_or, or_true]
  have key : ∀ (d k : Nat), k + d = 3 → Rn (zG xl) 196 7 [.ref 1012, .int x, .int 0, .int (nI 3), .int x.toInt8.toInt32, .int (nI k)] [] I J Q = Q (some (.int (sfi 1012 x.toInt8.toInt32 d k))) I J := by
    intro d
    induction d with
    | zero =>
      intro k h
      have h : k = 3 := h
      subst h
      rw [h196_7, sfi]
      simp (disch := omega) only [x196_0, x196_1, x196_2, x196_4, x196_5, x196_9, x196_10, x196_13, x196_14, x196_16, x196_17, x196_19, x196_22, x196_24, x196_25, x196_28, x196_31, x196_32, ↓reduceIte, zkl_i, zkl_r, zkl_n, zkl_z, zkl_l, Option.toList_some, Option.toList_none, List.cons_append, List.nil_append, zcs_0, zcs_i, zcs_l, zcs_r, zle8, true_and, and_true, true_or, or_true, nI_ltI, Nat.lt_irrefl, if_false]
    | succ d ih =>
      intro k h
      have hk : k < 3 := by omega
      rw [h196_7, sfi]
      simp (disch := omega) only [x196_0, x196_1, x196_2, x196_4, x196_5, x196_9, x196_10, x196_13, x196_14, x196_16, x196_17, x196_19, x196_22, x196_24, x196_25, x196_28, x196_31, x196_32, bb_1012, zbv_1012, ↓reduceIte, zkl_i, zkl_r, zkl_n, zkl_z, zkl_l, Option.toList_some, Option.toList_none, List.cons_append, List.nil_append, zcs_0, zcs_i, zcs_l, zcs_r, zle8, true_and, and_true, true_or, or_true, nI_ltI, hk, if_true, ixN_nI, nI_clamp, na_1]
      rw [ih (k + 1) (by omega)]
      simp only [ite_QQ Q, ite_sm, ite_vi, ite_vl, ite_self]
  exact key 3 0 (Nat.zero_add _)
theorem c_idx_1002 {x : Int32} : Rn (zG xl) 190 0 [.ref 1002, .int x] [] I J Q = Q (some (.int (zsx 1002 x))) I J := by
  have hk : ¬ zkd (zG xl) 1012 = 99 := by rw [ak_1012]; decide
  have h03 : (0 : Int32) < nI 3 := by decide
  simp only [x190_0, x190_1, x190_2, x190_3, x190_6, x191_0, x191_1, x191_4, x191_7, x191_8, x191_11, x191_12, x191_13, x191_14, x191_17, x191_20, x191_23, x191_24, x191_27, x191_28, x191_29, x191_30, x191_36, x193_0, x193_3, x193_6, x193_7, x193_10, x193_13, x193_14, x193_17, x193_18, x189_0, x189_1, x189_4, x189_5, x189_6, x189_9, x189_10, x192_0, x192_3, x192_6, x192_7, x192_10, x192_13, x192_14, x195_0, x195_1, x195_4, x195_7, x195_8, x195_9, x195_10, x195_11, x195_14, x195_15, x195_16, x195_17, x195_18, x195_21, x195_22, x195_23, x195_24, x195_27, x195_28, x195_29, x195_30, x195_31, x195_32, x195_33, x195_36, x194_0, x194_1, x194_4, x194_5, x194_8, x194_11, x194_12, x194_15, x194_16, ↓reduceIte, zkl_i, zkl_r, zkl_n, zkl_z, zkl_l, Option.toList_some, Option.toList_none, List.cons_append, List.nil_append, zcs_0, zcs_i, zcs_l, zcs_r, zle8, true_and, and_true, true_or, or_true, gc_1001, i1_0, Nat.reduceAdd, hk, not_false_eq_true, al_1012, ofn, sr0, ite_self, h03, c_iOC_1002, Nat.reduceLeDiff]
  rw [← six_ok (a := 1002) (q := 1012) (n := 3) (by decide), six]
  simp only [ite_QQ Q, ite_sm, ite_vi, ite_vl, ite_self]
theorem c_iOC_1003 {x : Int32} : Rn (zG xl) 196 0 [.ref 1013, .int x, .int 0, .int (nI 6), .null, .null] [] I J Q = Q (some (.int (sfi 1013 x.toInt8.toInt32 6 0))) I J := by
  simp only [x196_0, x196_1, x196_2, x196_4, x196_5, x196_9, x196_10, x196_13, x196_14, x196_16, x196_17, x196_19, x196_22, x196_24, x196_25, x196_28, x196_31, x196_32, ↓reduceIte, zkl_i, zkl_r, zkl_n, zkl_z, zkl_l, Option.toList_some, Option.toList_none, List.cons_append, List.nil_append, zcs_0, zcs_i, zcs_l, zcs_r, zle8, true_and, and_true, true_or, or_true]
  have key : ∀ (d k : Nat), k + d = 6 → Rn (zG xl) 196 7 [.ref 1013, .int x, .int 0, .int (nI 6), .int x.toInt8.toInt32, .int (nI k)] [] I J Q = Q (some (.int (sfi 1013 x.toInt8.toInt32 d k))) I J := by
    intro d
    induction d with
    | zero =>
      intro k h
      have h : k = 6 := h
      subst h
      rw [h196_7, sfi]
      simp (disch := omega) only [x196_0, x196_1, x196_2, x196_4, x196_5, x196_9, x196_10, x196_13, x196_14, x196_16, x196_17, x196_19, x196_22, x196_24, x196_25, x196_28, x196_31, x196_32, ↓reduceIte, zkl_i, zkl_r, zkl_n, zkl_z, zkl_l, Option.toList_some, Option.toList_none, List.cons_append, List.nil_append, zcs_0, zcs_i, zcs_l, zcs_r, zle8, true_and, and_true, true_or, or_true, nI_ltI, Nat.lt_irrefl, if_false]
    | succ d ih =>
      intro k h
      have hk : k < 6 := by omega
      rw [h196_7, sfi]
      simp (disch := omega) only [x196_0, x196_1, x196_2, x196_4, x196_5, x196_9, x196_10, x196_13, x196_14, x196_16, x196_17, x196_19, x196_22, x196_24, x196_25, x196_28, x196_31, x196_32, bb_1013, zbv_1013, ↓reduceIte, zkl_i, zkl_r, zkl_n, zkl_z, zkl_l, Option.toList_some, Option.toList_none, List.cons_append, List.nil_append, zcs_0, zcs_i, zcs_l, zcs_r, zle8, true_and, and_true, true_or, or_true, nI_ltI, hk, if_true, ixN_nI, nI_clamp, na_1]
      rw [ih (k + 1) (by omega)]
      simp only [ite_QQ Q, ite_sm, ite_vi, ite_vl, ite_self]
  exact key 6 0 (Nat.zero_add _)
theorem c_idx_1003 {x : Int32} : Rn (zG xl) 190 0 [.ref 1003, .int x] [] I J Q = Q (some (.int (zsx 1003 x))) I J := by
  have hk : ¬ zkd (zG xl) 1013 = 99 := by rw [ak_1013]; decide
  have h03 : (0 : Int32) < nI 6 := by decide
  simp only [x190_0, x190_1, x190_2, x190_3, x190_6, x191_0, x191_1, x191_4, x191_7, x191_8, x191_11, x191_12, x191_13, x191_14, x191_17, x191_20, x191_23, x191_24, x191_27, x191_28, x191_29, x191_30, x191_36, x193_0, x193_3, x193_6, x193_7, x193_10, x193_13, x193_14, x193_17, x193_18, x189_0, x189_1, x189_4, x189_5, x189_6, x189_9, x189_10, x192_0, x192_3, x192_6, x192_7, x192_10, x192_13, x192_14, x195_0, x195_1, x195_4, x195_7, x195_8, x195_9, x195_10, x195_11, x195_14, x195_15, x195_16, x195_17, x195_18, x195_21, x195_22, x195_23, x195_24, x195_27, x195_28, x195_29, x195_30, x195_31, x195_32, x195_33, x195_36, x194_0, x194_1, x194_4, x194_5, x194_8, x194_11, x194_12, x194_15, x194_16, ↓reduceIte, zkl_i, zkl_r, zkl_n, zkl_z, zkl_l, Option.toList_some, Option.toList_none, List.cons_append, List.nil_append, zcs_0, zcs_i, zcs_l, zcs_r, zle8, true_and, and_true, true_or, or_true, gc_1001, i1_0, Nat.reduceAdd, hk, not_false_eq_true, al_1013, ofn, sr0, ite_self, h03, c_iOC_1003, Nat.reduceLeDiff]
  rw [← six_ok (a := 1003) (q := 1013) (n := 6) (by decide), six]
  simp only [ite_QQ Q, ite_sm, ite_vi, ite_vl, ite_self]
theorem c_below {v e : Int32} : Rn (zG xl) 81 0 [.int v, .int e] [] I J Q = Q (some (.int (if v < 0 then 0 else if v < e then 1 else 0))) I J := by
  simp only [x81_0, x81_1, x81_4, x81_5, x81_6, x81_9, x81_10, x81_13, x81_14, ↓reduceIte, zkl_i, zkl_r, zkl_n, zkl_z, zkl_l, Option.toList_some, Option.toList_none, List.cons_append, List.nil_append, zcs_0, zcs_i, zcs_l, zcs_r, zle8, true_and, and_true, true_or, or_true]
  simp only [ite_QQ Q, ite_sm, ite_vi, ite_vl, ite_self]
theorem c_fits_2 {k : Nat} (hk : k < 29) : Rn (zG xl) 32 0 [.ref 2, .int (nI k), .null] [] I J Q = Q (some (.int (sp_ft 1001 (I 2 1) (I 3) k))) I J := by
  simp (disch := first | assumption | omega | (simp (disch := omega) only [zr_n, zr_s]; assumption)) only [x32_0, x32_1_2, x32_1_4, x32_1_6, x32_4, x32_5, x32_6, x32_7, x32_8, x32_9, x32_10, x32_36, x32_37_2, x32_37_4, x32_37_6, x32_40, x32_41, x32_42, x32_45, x32_48, x32_49, x32_52, x32_53, x32_54, x32_55, x32_57, x32_58_2, x32_58_4, x32_58_6, x32_61, x32_62, x32_65, x32_66, x32_68, x32_71, x32_72, x32_75, x32_76, x32_77, x32_78, x32_80, x32_83, x32_84, x32_87, x32_88, bi_3, bs_3, ↓reduceIte, zkl_i, zkl_r, zkl_n, zkl_z, zkl_l, Option.toList_some, Option.toList_none, List.cons_append, List.nil_append, zcs_0, zcs_i, zcs_l, zcs_r, zle8, true_and, and_true, true_or, or_true, ixN_nI, nI_clamp, nr_3, ne_0, ne_1, c3_0, gc_1001, c_idx_1001]
  simp only [ite_QQ Q, ite_sm, ite_vi, ite_vl, ite_self]
  rfl
theorem c_faultPlace_2 {l : Nat} (hl : I 2 3 = nI l) (hC : l ≤ 29) : Rn (zG xl) 31 0 [.ref 2, .null] [] I J Q = Q (some (.int (sp_fp 1001 (I 2 1) (I 3) l))) I J := by
  simp only [x31_0, x31_1, x31_3, x31_4_2, x31_4_4, x31_4_6, x31_7, x31_10, x31_11, x31_12, x31_15, x31_18, x31_19, x31_20, x31_23, x31_26, x31_27_2, x31_27_4, x31_27_6, x31_30, x31_33, x31_34_2, x31_34_4, x31_34_6, x31_37, x31_38, x31_39, x31_40, x31_43, x31_44, x31_47, x31_48_2, x31_48_4, x31_48_6, x31_51, ↓reduceIte, zkl_i, zkl_r, zkl_n, zkl_z, zkl_l, Option.toList_some, Option.toList_none, List.cons_append, List.nil_append, zcs_0, zcs_i, zcs_l, zcs_r, zle8, true_and, and_true, true_or, or_true]
  have key : ∀ (d k : Nat), k + d = l → Rn (zG xl) 31 2 [.ref 2, .int (nI k)] [] I J Q = Q (some (.int (sp_fl (sp_ft 1001 (I 2 1) (I 3)) (sp_fe l) d k))) I J := by
    intro d
    induction d with
    | zero =>
      intro k h
      have h : k = l := h
      subst h
      rw [h31_2, sp_fl, sp_fe]
      simp (disch := first | assumption | omega | (simp (disch := omega) only [zr_n, zr_s]; assumption)) only [x31_0, x31_1, x31_3, x31_4_2, x31_4_4, x31_4_6, x31_7, x31_10, x31_11, x31_12, x31_15, x31_18, x31_19, x31_20, x31_23, x31_26, x31_27_2, x31_27_4, x31_27_6, x31_30, x31_33, x31_34_2, x31_34_4, x31_34_6, x31_37, x31_38, x31_39, x31_40, x31_43, x31_44, x31_47, x31_48_2, x31_48_4, x31_48_6, x31_51, ↓reduceIte, zkl_i, zkl_r, zkl_n, zkl_z, zkl_l, Option.toList_some, Option.toList_none, List.cons_append, List.nil_append, zcs_0, zcs_i, zcs_l, zcs_r, zle8, true_and, and_true, true_or, or_true, hl, nI_ltI, Nat.lt_irrefl, if_false, nr_3, c3_0, ne_0, ne_2]
      simp only [ite_QQ Q, ite_sm, ite_vi, ite_vl, ite_self]
    | succ d ih =>
      intro k h
      have hk : k < l := by omega
      rw [h31_2, sp_fl]
      simp (disch := first | assumption | omega | (simp (disch := omega) only [zr_n, zr_s]; assumption)) only [x31_0, x31_1, x31_3, x31_4_2, x31_4_4, x31_4_6, x31_7, x31_10, x31_11, x31_12, x31_15, x31_18, x31_19, x31_20, x31_23, x31_26, x31_27_2, x31_27_4, x31_27_6, x31_30, x31_33, x31_34_2, x31_34_4, x31_34_6, x31_37, x31_38, x31_39, x31_40, x31_43, x31_44, x31_47, x31_48_2, x31_48_4, x31_48_6, x31_51, gc_2, ↓reduceIte, zkl_i, zkl_r, zkl_n, zkl_z, zkl_l, Option.toList_some, Option.toList_none, List.cons_append, List.nil_append, zcs_0, zcs_i, zcs_l, zcs_r, zle8, true_and, and_true, true_or, or_true, hl, nI_ltI, hk, if_true, c_fits_2, na_1]
      rw [ih (k + 1) (by omega)]
      simp only [ite_QQ Q, ite_sm, ite_vi, ite_vl, ite_self]
  exact key l 0 (Nat.zero_add l)
theorem c_pairs_2 {l : Nat} (hl : I 2 3 = nI l) (hC : l ≤ 29) : Rn (zG xl) 33 0 [.ref 2] [] I J Q = Q (some (.int (nI (sp_pn 1001 (I 2 1) (I 3) l)))) I J := by
  simp (disch := first | assumption | omega | (simp (disch := omega) only [zr_n, zr_s]; assumption)) only [x33_0, x33_1, x33_4, x33_5, x33_8, x33_9_2, x33_9_4, x33_9_6, x33_12, x33_13, x33_14, x33_15, x33_16, x33_19, x33_20, gc_2, ↓reduceIte, zkl_i, zkl_r, zkl_n, zkl_z, zkl_l, Option.toList_some, Option.toList_none, List.cons_append, List.nil_append, zcs_0, zcs_i, zcs_l, zcs_r, zle8, true_and, and_true, true_or, or_true, c_faultPlace_2 hl hC, hl, na_1, nd_3, c3_0]
  simp only [ite_QQ Q, ite_sm, ite_vi, ite_vl, ite_self]
  rw [sp_pn]
  by_cases h : sp_fp 1001 (I 2 1) (I 3) l = -1 <;> simp only [h, if_true, if_false, nI_0]
theorem c_headAt_2 {j : Nat} (hj : 3 * j < 29) : Rn (zG xl) 34 0 [.ref 2, .int (nI j)] [] I J Q = Q (some (.int (sp_hd 1001 (I 3) j))) I J := by
  simp (disch := first | assumption | omega | (simp (disch := omega) only [zr_n, zr_s]; assumption)) only [x34_0, x34_1_2, x34_1_4, x34_1_6, x34_4, x34_5_2, x34_5_4, x34_5_6, x34_8, x34_9, x34_10, x34_11, x34_12, x34_13, x34_16, bi_3, bs_3, ↓reduceIte, zkl_i, zkl_r, zkl_n, zkl_z, zkl_l, Option.toList_some, Option.toList_none, List.cons_append, List.nil_append, zcs_0, zcs_i, zcs_l, zcs_r, zle8, true_and, and_true, true_or, or_true, nm_3, ixN_nI, nI_clamp, gc_1001, c_idx_1001]
  rfl
theorem c_figureAt_2 {j : Nat} (hj : 3 * j + 1 < 29) : Rn (zG xl) 35 0 [.ref 2, .int (nI j)] [] I J Q = Q (some (.int (sp_fg (I 3) j))) I J := by
  simp (disch := first | assumption | omega | (simp (disch := omega) only [zr_n, zr_s]; assumption)) only [x35_0, x35_1_2, x35_1_4, x35_1_6, x35_4, x35_5, x35_6, x35_7, x35_8, x35_9, x35_10, x35_12, x35_13, bi_3, bs_3, ↓reduceIte, zkl_i, zkl_r, zkl_n, zkl_z, zkl_l, Option.toList_some, Option.toList_none, List.cons_append, List.nil_append, zcs_0, zcs_i, zcs_l, zcs_r, zle8, true_and, and_true, true_or, or_true, nm_3, na_1, ixN_nI, nI_clamp]
  rfl
theorem c_fits_4 {k : Nat} (hk : k < 17) : Rn (zG xl) 32 0 [.ref 4, .int (nI k), .null] [] I J Q = Q (some (.int (sp_ft 1002 (I 4 1) (I 5) k))) I J := by
  simp (disch := first | assumption | omega | (simp (disch := omega) only [zr_n, zr_s]; assumption)) only [x32_0, x32_1_2, x32_1_4, x32_1_6, x32_4, x32_5, x32_6, x32_7, x32_8, x32_9, x32_10, x32_36, x32_37_2, x32_37_4, x32_37_6, x32_40, x32_41, x32_42, x32_45, x32_48, x32_49, x32_52, x32_53, x32_54, x32_55, x32_57, x32_58_2, x32_58_4, x32_58_6, x32_61, x32_62, x32_65, x32_66, x32_68, x32_71, x32_72, x32_75, x32_76, x32_77, x32_78, x32_80, x32_83, x32_84, x32_87, x32_88, bi_5, bs_5, ↓reduceIte, zkl_i, zkl_r, zkl_n, zkl_z, zkl_l, Option.toList_some, Option.toList_none, List.cons_append, List.nil_append, zcs_0, zcs_i, zcs_l, zcs_r, zle8, true_and, and_true, true_or, or_true, ixN_nI, nI_clamp, nr_3, ne_0, ne_1, c3_0, gc_1001, c_idx_1002]
  simp only [ite_QQ Q, ite_sm, ite_vi, ite_vl, ite_self]
  rfl
theorem c_faultPlace_4 {l : Nat} (hl : I 4 3 = nI l) (hC : l ≤ 17) : Rn (zG xl) 31 0 [.ref 4, .null] [] I J Q = Q (some (.int (sp_fp 1002 (I 4 1) (I 5) l))) I J := by
  simp only [x31_0, x31_1, x31_3, x31_4_2, x31_4_4, x31_4_6, x31_7, x31_10, x31_11, x31_12, x31_15, x31_18, x31_19, x31_20, x31_23, x31_26, x31_27_2, x31_27_4, x31_27_6, x31_30, x31_33, x31_34_2, x31_34_4, x31_34_6, x31_37, x31_38, x31_39, x31_40, x31_43, x31_44, x31_47, x31_48_2, x31_48_4, x31_48_6, x31_51, ↓reduceIte, zkl_i, zkl_r, zkl_n, zkl_z, zkl_l, Option.toList_some, Option.toList_none, List.cons_append, List.nil_append, zcs_0, zcs_i, zcs_l, zcs_r, zle8, true_and, and_true, true_or, or_true]
  have key : ∀ (d k : Nat), k + d = l → Rn (zG xl) 31 2 [.ref 4, .int (nI k)] [] I J Q = Q (some (.int (sp_fl (sp_ft 1002 (I 4 1) (I 5)) (sp_fe l) d k))) I J := by
    intro d
    induction d with
    | zero =>
      intro k h
      have h : k = l := h
      subst h
      rw [h31_2, sp_fl, sp_fe]
      simp (disch := first | assumption | omega | (simp (disch := omega) only [zr_n, zr_s]; assumption)) only [x31_0, x31_1, x31_3, x31_4_2, x31_4_4, x31_4_6, x31_7, x31_10, x31_11, x31_12, x31_15, x31_18, x31_19, x31_20, x31_23, x31_26, x31_27_2, x31_27_4, x31_27_6, x31_30, x31_33, x31_34_2, x31_34_4, x31_34_6, x31_37, x31_38, x31_39, x31_40, x31_43, x31_44, x31_47, x31_48_2, x31_48_4, x31_48_6, x31_51, ↓reduceIte, zkl_i, zkl_r, zkl_n, zkl_z, zkl_l, Option.toList_some, Option.toList_none, List.cons_append, List.nil_append, zcs_0, zcs_i, zcs_l, zcs_r, zle8, true_and, and_true, true_or, or_true, hl, nI_ltI, Nat.lt_irrefl, if_false, nr_3, c3_0, ne_0, ne_2]
      simp only [ite_QQ Q, ite_sm, ite_vi, ite_vl, ite_self]
    | succ d ih =>
      intro k h
      have hk : k < l := by omega
      rw [h31_2, sp_fl]
      simp (disch := first | assumption | omega | (simp (disch := omega) only [zr_n, zr_s]; assumption)) only [x31_0, x31_1, x31_3, x31_4_2, x31_4_4, x31_4_6, x31_7, x31_10, x31_11, x31_12, x31_15, x31_18, x31_19, x31_20, x31_23, x31_26, x31_27_2, x31_27_4, x31_27_6, x31_30, x31_33, x31_34_2, x31_34_4, x31_34_6, x31_37, x31_38, x31_39, x31_40, x31_43, x31_44, x31_47, x31_48_2, x31_48_4, x31_48_6, x31_51, gc_4, ↓reduceIte, zkl_i, zkl_r, zkl_n, zkl_z, zkl_l, Option.toList_some, Option.toList_none, List.cons_append, List.nil_append, zcs_0, zcs_i, zcs_l, zcs_r, zle8, true_and, and_true, true_or, or_true, hl, nI_ltI, hk, if_true, c_fits_4, na_1]
      rw [ih (k + 1) (by omega)]
      simp only [ite_QQ Q, ite_sm, ite_vi, ite_vl, ite_self]
  exact key l 0 (Nat.zero_add l)
theorem c_pairs_4 {l : Nat} (hl : I 4 3 = nI l) (hC : l ≤ 17) : Rn (zG xl) 33 0 [.ref 4] [] I J Q = Q (some (.int (nI (sp_pn 1002 (I 4 1) (I 5) l)))) I J := by
  simp (disch := first | assumption | omega | (simp (disch := omega) only [zr_n, zr_s]; assumption)) only [x33_0, x33_1, x33_4, x33_5, x33_8, x33_9_2, x33_9_4, x33_9_6, x33_12, x33_13, x33_14, x33_15, x33_16, x33_19, x33_20, gc_4, ↓reduceIte, zkl_i, zkl_r, zkl_n, zkl_z, zkl_l, Option.toList_some, Option.toList_none, List.cons_append, List.nil_append, zcs_0, zcs_i, zcs_l, zcs_r, zle8, true_and, and_true, true_or, or_true, c_faultPlace_4 hl hC, hl, na_1, nd_3, c3_0]
  simp only [ite_QQ Q, ite_sm, ite_vi, ite_vl, ite_self]
  rw [sp_pn]
  by_cases h : sp_fp 1002 (I 4 1) (I 5) l = -1 <;> simp only [h, if_true, if_false, nI_0]
theorem c_headAt_4 {j : Nat} (hj : 3 * j < 17) : Rn (zG xl) 34 0 [.ref 4, .int (nI j)] [] I J Q = Q (some (.int (sp_hd 1002 (I 5) j))) I J := by
  simp (disch := first | assumption | omega | (simp (disch := omega) only [zr_n, zr_s]; assumption)) only [x34_0, x34_1_2, x34_1_4, x34_1_6, x34_4, x34_5_2, x34_5_4, x34_5_6, x34_8, x34_9, x34_10, x34_11, x34_12, x34_13, x34_16, bi_5, bs_5, ↓reduceIte, zkl_i, zkl_r, zkl_n, zkl_z, zkl_l, Option.toList_some, Option.toList_none, List.cons_append, List.nil_append, zcs_0, zcs_i, zcs_l, zcs_r, zle8, true_and, and_true, true_or, or_true, nm_3, ixN_nI, nI_clamp, gc_1001, c_idx_1002]
  rfl
theorem c_figureAt_4 {j : Nat} (hj : 3 * j + 1 < 17) : Rn (zG xl) 35 0 [.ref 4, .int (nI j)] [] I J Q = Q (some (.int (sp_fg (I 5) j))) I J := by
  simp (disch := first | assumption | omega | (simp (disch := omega) only [zr_n, zr_s]; assumption)) only [x35_0, x35_1_2, x35_1_4, x35_1_6, x35_4, x35_5, x35_6, x35_7, x35_8, x35_9, x35_10, x35_12, x35_13, bi_5, bs_5, ↓reduceIte, zkl_i, zkl_r, zkl_n, zkl_z, zkl_l, Option.toList_some, Option.toList_none, List.cons_append, List.nil_append, zcs_0, zcs_i, zcs_l, zcs_r, zle8, true_and, and_true, true_or, or_true, nm_3, na_1, ixN_nI, nI_clamp]
  rfl
theorem c_fits_6 {k : Nat} (hk : k < 47) : Rn (zG xl) 32 0 [.ref 6, .int (nI k), .null] [] I J Q = Q (some (.int (sp_ft 1003 (I 6 1) (I 7) k))) I J := by
  simp (disch := first | assumption | omega | (simp (disch := omega) only [zr_n, zr_s]; assumption)) only [x32_0, x32_1_2, x32_1_4, x32_1_6, x32_4, x32_5, x32_6, x32_7, x32_8, x32_9, x32_10, x32_36, x32_37_2, x32_37_4, x32_37_6, x32_40, x32_41, x32_42, x32_45, x32_48, x32_49, x32_52, x32_53, x32_54, x32_55, x32_57, x32_58_2, x32_58_4, x32_58_6, x32_61, x32_62, x32_65, x32_66, x32_68, x32_71, x32_72, x32_75, x32_76, x32_77, x32_78, x32_80, x32_83, x32_84, x32_87, x32_88, bi_7, bs_7, ↓reduceIte, zkl_i, zkl_r, zkl_n, zkl_z, zkl_l, Option.toList_some, Option.toList_none, List.cons_append, List.nil_append, zcs_0, zcs_i, zcs_l, zcs_r, zle8, true_and, and_true, true_or, or_true, ixN_nI, nI_clamp, nr_3, ne_0, ne_1, c3_0, gc_1001, c_idx_1003]
  simp only [ite_QQ Q, ite_sm, ite_vi, ite_vl, ite_self]
  rfl
theorem c_faultPlace_6 {l : Nat} (hl : I 6 3 = nI l) (hC : l ≤ 47) : Rn (zG xl) 31 0 [.ref 6, .null] [] I J Q = Q (some (.int (sp_fp 1003 (I 6 1) (I 7) l))) I J := by
  simp only [x31_0, x31_1, x31_3, x31_4_2, x31_4_4, x31_4_6, x31_7, x31_10, x31_11, x31_12, x31_15, x31_18, x31_19, x31_20, x31_23, x31_26, x31_27_2, x31_27_4, x31_27_6, x31_30, x31_33, x31_34_2, x31_34_4, x31_34_6, x31_37, x31_38, x31_39, x31_40, x31_43, x31_44, x31_47, x31_48_2, x31_48_4, x31_48_6, x31_51, ↓reduceIte, zkl_i, zkl_r, zkl_n, zkl_z, zkl_l, Option.toList_some, Option.toList_none, List.cons_append, List.nil_append, zcs_0, zcs_i, zcs_l, zcs_r, zle8, true_and, and_true, true_or, or_true]
  have key : ∀ (d k : Nat), k + d = l → Rn (zG xl) 31 2 [.ref 6, .int (nI k)] [] I J Q = Q (some (.int (sp_fl (sp_ft 1003 (I 6 1) (I 7)) (sp_fe l) d k))) I J := by
    intro d
    induction d with
    | zero =>
      intro k h
      have h : k = l := h
      subst h
      rw [h31_2, sp_fl, sp_fe]
      simp (disch := first | assumption | omega | (simp (disch := omega) only [zr_n, zr_s]; assumption)) only [x31_0, x31_1, x31_3, x31_4_2, x31_4_4, x31_4_6, x31_7, x31_10, x31_11, x31_12, x31_15, x31_18, x31_19, x31_20, x31_23, x31_26, x31_27_2, x31_27_4, x31_27_6, x31_30, x31_33, x31_34_2, x31_34_4, x31_34_6, x31_37, x31_38, x31_39, x31_40, x31_43, x31_44, x31_47, x31_48_2, x31_48_4, x31_48_6, x31_51, ↓reduceIte, zkl_i, zkl_r, zkl_n, zkl_z, zkl_l, Option.toList_some, Option.toList_none, List.cons_append, List.nil_append, zcs_0, zcs_i, zcs_l, zcs_r, zle8, true_and, and_true, true_or, or_true, hl, nI_ltI, Nat.lt_irrefl, if_false, nr_3, c3_0, ne_0, ne_2]
      simp only [ite_QQ Q, ite_sm, ite_vi, ite_vl, ite_self]
    | succ d ih =>
      intro k h
      have hk : k < l := by omega
      rw [h31_2, sp_fl]
      simp (disch := first | assumption | omega | (simp (disch := omega) only [zr_n, zr_s]; assumption)) only [x31_0, x31_1, x31_3, x31_4_2, x31_4_4, x31_4_6, x31_7, x31_10, x31_11, x31_12, x31_15, x31_18, x31_19, x31_20, x31_23, x31_26, x31_27_2, x31_27_4, x31_27_6, x31_30, x31_33, x31_34_2, x31_34_4, x31_34_6, x31_37, x31_38, x31_39, x31_40, x31_43, x31_44, x31_47, x31_48_2, x31_48_4, x31_48_6, x31_51, gc_6, ↓reduceIte, zkl_i, zkl_r, zkl_n, zkl_z, zkl_l, Option.toList_some, Option.toList_none, List.cons_append, List.nil_append, zcs_0, zcs_i, zcs_l, zcs_r, zle8, true_and, and_true, true_or, or_true, hl, nI_ltI, hk, if_true, c_fits_6, na_1]
      rw [ih (k + 1) (by omega)]
      simp only [ite_QQ Q, ite_sm, ite_vi, ite_vl, ite_self]
  exact key l 0 (Nat.zero_add l)
theorem c_pairs_6 {l : Nat} (hl : I 6 3 = nI l) (hC : l ≤ 47) : Rn (zG xl) 33 0 [.ref 6] [] I J Q = Q (some (.int (nI (sp_pn 1003 (I 6 1) (I 7) l)))) I J := by
  simp (disch := first | assumption | omega | (simp (disch := omega) only [zr_n, zr_s]; assumption)) only [x33_0, x33_1, x33_4, x33_5, x33_8, x33_9_2, x33_9_4, x33_9_6, x33_12, x33_13, x33_14, x33_15, x33_16, x33_19, x33_20, gc_6, ↓reduceIte, zkl_i, zkl_r, zkl_n, zkl_z, zkl_l, Option.toList_some, Option.toList_none, List.cons_append, List.nil_append, zcs_0, zcs_i, zcs_l, zcs_r, zle8, true_and, and_true, true_or, or_true, c_faultPlace_6 hl hC, hl, na_1, nd_3, c3_0]
  simp only [ite_QQ Q, ite_sm, ite_vi, ite_vl, ite_self]
  rw [sp_pn]
  by_cases h : sp_fp 1003 (I 6 1) (I 7) l = -1 <;> simp only [h, if_true, if_false, nI_0]
theorem c_headAt_6 {j : Nat} (hj : 3 * j < 47) : Rn (zG xl) 34 0 [.ref 6, .int (nI j)] [] I J Q = Q (some (.int (sp_hd 1003 (I 7) j))) I J := by
  simp (disch := first | assumption | omega | (simp (disch := omega) only [zr_n, zr_s]; assumption)) only [x34_0, x34_1_2, x34_1_4, x34_1_6, x34_4, x34_5_2, x34_5_4, x34_5_6, x34_8, x34_9, x34_10, x34_11, x34_12, x34_13, x34_16, bi_7, bs_7, ↓reduceIte, zkl_i, zkl_r, zkl_n, zkl_z, zkl_l, Option.toList_some, Option.toList_none, List.cons_append, List.nil_append, zcs_0, zcs_i, zcs_l, zcs_r, zle8, true_and, and_true, true_or, or_true, nm_3, ixN_nI, nI_clamp, gc_1001, c_idx_1003]
  rfl
theorem c_figureAt_6 {j : Nat} (hj : 3 * j + 1 < 47) : Rn (zG xl) 35 0 [.ref 6, .int (nI j)] [] I J Q = Q (some (.int (sp_fg (I 7) j))) I J := by
  simp (disch := first | assumption | omega | (simp (disch := omega) only [zr_n, zr_s]; assumption)) only [x35_0, x35_1_2, x35_1_4, x35_1_6, x35_4, x35_5, x35_6, x35_7, x35_8, x35_9, x35_10, x35_12, x35_13, bi_7, bs_7, ↓reduceIte, zkl_i, zkl_r, zkl_n, zkl_z, zkl_l, Option.toList_some, Option.toList_none, List.cons_append, List.nil_append, zcs_0, zcs_i, zcs_l, zcs_r, zle8, true_and, and_true, true_or, or_true, nm_3, na_1, ixN_nI, nI_clamp]
  rfl
theorem c_takePairs_2 {l : Nat} (hl : I 2 3 = nI l) (hC : l ≤ 29) : Rn (zG xl) 13 0 [.ref 2, .ref 9, .ref 10, .null, .null] [] I J Q = Q (some (.int (nI (sp_pn 1001 (I 2 1) (I 3) l)))) (zr (zr I 9 (zro (sp_pn 1001 (I 2 1) (I 3) l) (sp_hd 1001 (I 3)) (I 9))) 10 (zro (sp_pn 1001 (I 2 1) (I 3) l) (sp_fg (I 3)) (I 10))) J := by
  have hp := sp_pn_le (H := 1001) (lf := I 2 1) (f := I 3) (show l < 1000 by omega)
  simp (disch := first | assumption | omega | (simp (disch := omega) only [zr_n, zr_s]; assumption)) only [x13_0, x13_1, x13_4, x13_5, x13_6, x13_10, x13_11, x13_14, x13_15, x13_17, x13_18, x13_20, x13_23, x13_24, x13_25, x13_27, x13_28, x13_30, x13_33, x13_34, x13_37, x13_40, x13_41, gc_2, ↓reduceIte, zkl_i, zkl_r, zkl_n, zkl_z, zkl_l, Option.toList_some, Option.toList_none, List.cons_append, List.nil_append, zcs_0, zcs_i, zcs_l, zcs_r, zle8, true_and, and_true, true_or, or_true, c_pairs_2 hl hC]
  generalize sp_pn 1001 (I 2 1) (I 3) l = n at hp
  have key : ∀ (d k : Nat), k + d = n → Rn (zG xl) 13 8 [.ref 2, .ref 9, .ref 10, .int (nI n), .int (nI k)] [] (zr (zr I 9 (zro k (sp_hd 1001 (I 3)) (I 9))) 10 (zro k (sp_fg (I 3)) (I 10))) J Q = Q (some (.int (nI n))) (zr (zr I 9 (zro n (sp_hd 1001 (I 3)) (I 9))) 10 (zro n (sp_fg (I 3)) (I 10))) J := by
    intro d
    induction d with
    | zero =>
      intro k h
      have h : k = n := h
      subst h
      rw [h13_8]
      simp (disch := first | assumption | omega | (simp (disch := omega) only [zr_n, zr_s]; assumption)) only [x13_0, x13_1, x13_4, x13_5, x13_6, x13_10, x13_11, x13_14, x13_15, x13_17, x13_18, x13_20, x13_23, x13_24, x13_25, x13_27, x13_28, x13_30, x13_33, x13_34, x13_37, x13_40, x13_41, ↓reduceIte, zkl_i, zkl_r, zkl_n, zkl_z, zkl_l, Option.toList_some, Option.toList_none, List.cons_append, List.nil_append, zcs_0, zcs_i, zcs_l, zcs_r, zle8, true_and, and_true, true_or, or_true, nI_ltI, Nat.lt_irrefl, if_false]
    | succ d ih =>
      intro k h
      have hk : k < n := by omega
      rw [h13_8]
      simp (disch := first | assumption | omega | (simp (disch := omega) only [zr_n, zr_s]; assumption)) only [x13_0, x13_1, x13_4, x13_5, x13_6, x13_10, x13_11, x13_14, x13_15, x13_17, x13_18, x13_20, x13_23, x13_24, x13_25, x13_27, x13_28, x13_30, x13_33, x13_34, x13_37, x13_40, x13_41, gc_2, bi_9, bs_9, bi_10, bs_10, ↓reduceIte, zkl_i, zkl_r, zkl_n, zkl_z, zkl_l, Option.toList_some, Option.toList_none, List.cons_append, List.nil_append, zcs_0, zcs_i, zcs_l, zcs_r, zle8, true_and, and_true, true_or, or_true, nI_ltI, hk, if_true, c_headAt_2, c_figureAt_2, na_1, ixN_nI, nI_clamp, zr_n, zr_s, zro_upd]
      rw [zr_c (c := 10) (d := 9) (by decide), zr_zr, zr_zr]
      exact ih (k + 1) (by omega)
  have h0 := key n 0 (Nat.zero_add n)
  rw [zro_0, zro_0, zr_id, zr_id] at h0
  exact h0
theorem c_takePairs_4 {l : Nat} (hl : I 4 3 = nI l) (hC : l ≤ 17) : Rn (zG xl) 13 0 [.ref 4, .ref 11, .ref 12, .null, .null] [] I J Q = Q (some (.int (nI (sp_pn 1002 (I 4 1) (I 5) l)))) (zr (zr I 11 (zro (sp_pn 1002 (I 4 1) (I 5) l) (sp_hd 1002 (I 5)) (I 11))) 12 (zro (sp_pn 1002 (I 4 1) (I 5) l) (sp_fg (I 5)) (I 12))) J := by
  have hp := sp_pn_le (H := 1002) (lf := I 4 1) (f := I 5) (show l < 1000 by omega)
  simp (disch := first | assumption | omega | (simp (disch := omega) only [zr_n, zr_s]; assumption)) only [x13_0, x13_1, x13_4, x13_5, x13_6, x13_10, x13_11, x13_14, x13_15, x13_17, x13_18, x13_20, x13_23, x13_24, x13_25, x13_27, x13_28, x13_30, x13_33, x13_34, x13_37, x13_40, x13_41, gc_4, ↓reduceIte, zkl_i, zkl_r, zkl_n, zkl_z, zkl_l, Option.toList_some, Option.toList_none, List.cons_append, List.nil_append, zcs_0, zcs_i, zcs_l, zcs_r, zle8, true_and, and_true, true_or, or_true, c_pairs_4 hl hC]
  generalize sp_pn 1002 (I 4 1) (I 5) l = n at hp
  have key : ∀ (d k : Nat), k + d = n → Rn (zG xl) 13 8 [.ref 4, .ref 11, .ref 12, .int (nI n), .int (nI k)] [] (zr (zr I 11 (zro k (sp_hd 1002 (I 5)) (I 11))) 12 (zro k (sp_fg (I 5)) (I 12))) J Q = Q (some (.int (nI n))) (zr (zr I 11 (zro n (sp_hd 1002 (I 5)) (I 11))) 12 (zro n (sp_fg (I 5)) (I 12))) J := by
    intro d
    induction d with
    | zero =>
      intro k h
      have h : k = n := h
      subst h
      rw [h13_8]
      simp (disch := first | assumption | omega | (simp (disch := omega) only [zr_n, zr_s]; assumption)) only [x13_0, x13_1, x13_4, x13_5, x13_6, x13_10, x13_11, x13_14, x13_15, x13_17, x13_18, x13_20, x13_23, x13_24, x13_25, x13_27, x13_28, x13_30, x13_33, x13_34, x13_37, x13_40, x13_41, ↓reduceIte, zkl_i, zkl_r, zkl_n, zkl_z, zkl_l, Option.toList_some, Option.toList_none, List.cons_append, List.nil_append, zcs_0, zcs_i, zcs_l, zcs_r, zle8, true_and, and_true, true_or, or_true, nI_ltI, Nat.lt_irrefl, if_false]
    | succ d ih =>
      intro k h
      have hk : k < n := by omega
      rw [h13_8]
      simp (disch := first | assumption | omega | (simp (disch := omega) only [zr_n, zr_s]; assumption)) only [x13_0, x13_1, x13_4, x13_5, x13_6, x13_10, x13_11, x13_14, x13_15, x13_17, x13_18, x13_20, x13_23, x13_24, x13_25, x13_27, x13_28, x13_30, x13_33, x13_34, x13_37, x13_40, x13_41, gc_4, bi_11, bs_11, bi_12, bs_12, ↓reduceIte, zkl_i, zkl_r, zkl_n, zkl_z, zkl_l, Option.toList_some, Option.toList_none, List.cons_append, List.nil_append, zcs_0, zcs_i, zcs_l, zcs_r, zle8, true_and, and_true, true_or, or_true, nI_ltI, hk, if_true, c_headAt_4, c_figureAt_4, na_1, ixN_nI, nI_clamp, zr_n, zr_s, zro_upd]
      rw [zr_c (c := 12) (d := 11) (by decide), zr_zr, zr_zr]
      exact ih (k + 1) (by omega)
  have h0 := key n 0 (Nat.zero_add n)
  rw [zro_0, zro_0, zr_id, zr_id] at h0
  exact h0
theorem c_takePairs_6 {l : Nat} (hl : I 6 3 = nI l) (hC : l ≤ 47) : Rn (zG xl) 13 0 [.ref 6, .ref 13, .ref 14, .null, .null] [] I J Q = Q (some (.int (nI (sp_pn 1003 (I 6 1) (I 7) l)))) (zr (zr I 13 (zro (sp_pn 1003 (I 6 1) (I 7) l) (sp_hd 1003 (I 7)) (I 13))) 14 (zro (sp_pn 1003 (I 6 1) (I 7) l) (sp_fg (I 7)) (I 14))) J := by
  have hp := sp_pn_le (H := 1003) (lf := I 6 1) (f := I 7) (show l < 1000 by omega)
  simp (disch := first | assumption | omega | (simp (disch := omega) only [zr_n, zr_s]; assumption)) only [x13_0, x13_1, x13_4, x13_5, x13_6, x13_10, x13_11, x13_14, x13_15, x13_17, x13_18, x13_20, x13_23, x13_24, x13_25, x13_27, x13_28, x13_30, x13_33, x13_34, x13_37, x13_40, x13_41, gc_6, ↓reduceIte, zkl_i, zkl_r, zkl_n, zkl_z, zkl_l, Option.toList_some, Option.toList_none, List.cons_append, List.nil_append, zcs_0, zcs_i, zcs_l, zcs_r, zle8, true_and, and_true, true_or, or_true, c_pairs_6 hl hC]
  generalize sp_pn 1003 (I 6 1) (I 7) l = n at hp
  have key : ∀ (d k : Nat), k + d = n → Rn (zG xl) 13 8 [.ref 6, .ref 13, .ref 14, .int (nI n), .int (nI k)] [] (zr (zr I 13 (zro k (sp_hd 1003 (I 7)) (I 13))) 14 (zro k (sp_fg (I 7)) (I 14))) J Q = Q (some (.int (nI n))) (zr (zr I 13 (zro n (sp_hd 1003 (I 7)) (I 13))) 14 (zro n (sp_fg (I 7)) (I 14))) J := by
    intro d
    induction d with
    | zero =>
      intro k h
      have h : k = n := h
      subst h
      rw [h13_8]
      simp (disch := first | assumption | omega | (simp (disch := omega) only [zr_n, zr_s]; assumption)) only [x13_0, x13_1, x13_4, x13_5, x13_6, x13_10, x13_11, x13_14, x13_15, x13_17, x13_18, x13_20, x13_23, x13_24, x13_25, x13_27, x13_28, x13_30, x13_33, x13_34, x13_37, x13_40, x13_41, ↓reduceIte, zkl_i, zkl_r, zkl_n, zkl_z, zkl_l, Option.toList_some, Option.toList_none, List.cons_append, List.nil_append, zcs_0, zcs_i, zcs_l, zcs_r, zle8, true_and, and_true, true_or, or_true, nI_ltI, Nat.lt_irrefl, if_false]
    | succ d ih =>
      intro k h
      have hk : k < n := by omega
      rw [h13_8]
      simp (disch := first | assumption | omega | (simp (disch := omega) only [zr_n, zr_s]; assumption)) only [x13_0, x13_1, x13_4, x13_5, x13_6, x13_10, x13_11, x13_14, x13_15, x13_17, x13_18, x13_20, x13_23, x13_24, x13_25, x13_27, x13_28, x13_30, x13_33, x13_34, x13_37, x13_40, x13_41, gc_6, bi_13, bs_13, bi_14, bs_14, ↓reduceIte, zkl_i, zkl_r, zkl_n, zkl_z, zkl_l, Option.toList_some, Option.toList_none, List.cons_append, List.nil_append, zcs_0, zcs_i, zcs_l, zcs_r, zle8, true_and, and_true, true_or, or_true, nI_ltI, hk, if_true, c_headAt_6, c_figureAt_6, na_1, ixN_nI, nI_clamp, zr_n, zr_s, zro_upd]
      rw [zr_c (c := 14) (d := 13) (by decide), zr_zr, zr_zr]
      exact ih (k + 1) (by omega)
  have h0 := key n 0 (Nat.zero_add n)
  rw [zro_0, zro_0, zr_id, zr_id] at h0
  exact h0
end

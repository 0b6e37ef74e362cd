/-! ===== the reference: chance; both ways to the lowest terms ===== -/
theorem odd_fix {f : Nat → Int64 × Int64 → Int64 × Int64} {x : Int64 × Int64} (h : ∀ k, f k x = x) : ∀ d k, fo f d k x = x := by
  intro d
  induction d with
  | zero => intro k; rfl
  | succ d ih => intro k; rw [fo, h k]; exact ih (k + 1)
theorem lw_gcd : ∀ (h k a : Nat), a < 2 ^ 62 → h ≤ 32 → fo (fun _ (x : Int64 × Int64) => if x.1 - x.1 / 2 * 2 = 0 then (x.1 / 2, x.2 / 2) else x) h k (lN a, lN (2 ^ h)) = (lN (a / Nat.gcd a (2 ^ h)), lN (2 ^ h / Nat.gcd a (2 ^ h))) := by
  intro h
  induction h with
  | zero =>
    intro k a ha _
    rw [fo, Nat.pow_zero, Nat.gcd_one_right, Nat.div_one]
  | succ h ih =>
    intro k a ha hh
    have hp : 2 ^ h ≤ 2 ^ 32 := Nat.pow_le_pow_right (by decide) (by omega)
    have h2 : 2 ^ (h + 1) = 2 * 2 ^ h := by rw [Nat.pow_succ, Nat.mul_comm]
    have r : lN a - lN a / 2 * 2 = lN (a % 2) := pk_lRem (by omega) (b := 2) (by decide) (by decide)
    have q : lN a / 2 = lN (a / 2) := pk_lDiv (by omega) (b := 2) (by decide) (by decide)
    have u : lN (2 ^ (h + 1)) / 2 = lN (2 ^ h) := by
      rw [h2, show (2 : Int64) = lN 2 from rfl, pk_lDiv (by omega) (by decide) (by decide)]
      congr 1
      omega
    by_cases ev : a % 2 = 0
    · have hz : lN a - lN a / 2 * 2 = 0 := by rw [r, ev]; rfl
      rw [fo, if_pos hz, q, u, ih (k + 1) (a / 2) (by omega) (by omega)]
      have ea : a = 2 * (a / 2) := by omega
      have g : Nat.gcd a (2 ^ (h + 1)) = 2 * Nat.gcd (a / 2) (2 ^ h) := by
        conv => lhs; rw [ea, h2]
        exact Nat.gcd_mul_left 2 (a / 2) (2 ^ h)
      rw [g, h2, Nat.mul_div_mul_left _ _ (by decide : 0 < 2)]
      conv => rhs; rw [ea, Nat.mul_div_mul_left _ _ (by decide : 0 < 2)]
      rw [show 2 * (a / 2) / 2 = a / 2 by omega]
    · have hz : ¬ lN a - lN a / 2 * 2 = 0 := by
        rw [r, show a % 2 = 1 by omega]
        decide
      have g : Nat.gcd a (2 ^ (h + 1)) = 1 := by
        apply Nat.Coprime.pow_right
        have h1 := Nat.gcd_dvd_right a 2
        have h3 := Nat.gcd_dvd_left a 2
        have h4 : Nat.gcd a 2 ≤ 2 := Nat.le_of_dvd (by decide) h1
        have h5 : Nat.gcd a 2 ≠ 2 := fun z => by
          rw [z] at h3
          omega
        have h6 : 0 < Nat.gcd a 2 := Nat.gcd_pos_of_pos_right a (by decide)
        show Nat.gcd a 2 = 1
        omega
      rw [g, Nat.div_one, Nat.div_one]
      exact odd_fix (f := fun _ (x : Int64 × Int64) => if x.1 - x.1 / 2 * 2 = 0 then (x.1 / 2, x.2 / 2) else x) (x := (lN a, lN (2 ^ (h + 1)))) (fun _ => if_neg hz) (h + 1) k
def wfac (c : Nat) (a : Nat) (i : Nat) : Nat := if nI a >>> (nI i &&& 31) &&& 1 = 1 then 16 - c else c
theorem wt_nat {c a : Nat} (hc : c ≤ 16) : ∀ e, e ≤ 8 → ∃ w, w ≤ 16 ^ e ∧ wtF e (nI a) (nI c) = lN w := by
  intro e
  induction e with
  | zero => intro _; exact ⟨1, by decide, rfl⟩
  | succ e ih =>
    intro he
    obtain ⟨w, hw, ew⟩ := ih (by omega)
    unfold wtF at ew ⊢
    rw [fo_snoc, Nat.zero_add, ew]
    have e1 : (16 - nI c : Int32).toInt64 = lN (16 - c) := by
      rw [show (16 : Int32) = nI 16 from rfl, pk_sub (by omega), nI_l (by omega)]
    have e2 : (nI c).toInt64 = lN c := nI_l (by omega)
    have hp : 16 ^ (e + 1) = 16 ^ e * 16 := Nat.pow_succ 16 e
    by_cases hb : nI a >>> (nI e &&& 31) &&& 1 = 1
    · refine ⟨w * (16 - c), ?_, by rw [if_pos hb, e1, lN_mul]⟩
      rw [hp]
      exact Nat.mul_le_mul hw (by omega)
    · refine ⟨w * c, ?_, by rw [if_neg hb, e2, lN_mul]⟩
      rw [hp]
      exact Nat.mul_le_mul hw hc
theorem ch_nat {D : zI} {c i : Nat} (hc : c ≤ 16) (he : tn (D 28 9) ≤ 8) : ∀ n, n ≤ 256 → ∃ s, s ≤ n * 2 ^ 32 ∧ chV D (nI c) i n = lN s := by
  intro n
  induction n with
  | zero => intro _; exact ⟨0, by decide, rfl⟩
  | succ n ih =>
    intro hn
    obtain ⟨s, hs, es⟩ := ih (by omega)
    obtain ⟨w, hw, ew⟩ := wt_nat (c := c) (a := n) hc (tn (D 28 9)) he
    have hp : 16 ^ tn (D 28 9) ≤ 16 ^ 8 := Nat.pow_le_pow_right (by decide) he
    have hp2 : (16 : Nat) ^ 8 = 2 ^ 32 := by decide
    unfold chV at es ⊢
    rw [fo_snoc, Nat.zero_add, es, ew]
    by_cases hb : Nt (da D (nI n)) 39 i = -1
    · rw [if_pos hb]
      refine ⟨s, ?_, rfl⟩
      rw [Nat.add_mul, Nat.one_mul]
      exact Nat.le_trans hs (Nat.le_add_right _ _)
    · rw [if_neg hb]
      refine ⟨s + w, ?_, lN_add s w⟩
      rw [Nat.add_mul, Nat.one_mul]
      exact Nat.add_le_add hs (Nat.le_trans hw (Nat.le_trans hp (Nat.le_of_eq hp2)))
theorem fo_0 (g : Nat → Int64) : ∀ d k, fo (fun i w => w * g i) d k (0 : Int64) = 0 := by
  intro d
  induction d with
  | zero => intro k; rfl
  | succ d ih => intro k; rw [fo, Int64.zero_mul]; exact ih (k + 1)
theorem pw_l {e : Nat} (h : e ≤ 8) : (1 : Int64) <<< ((nI (4 * e)).toInt64 &&& 63) = lN (2 ^ (4 * e)) := by
  have : ∀ e, e < 9 → (1 : Int64) <<< ((nI (4 * e)).toInt64 &&& 63) = lN (2 ^ (4 * e)) := by decide +kernel
  exact this e (by omega)
def chA (D : zI) (c : Int32) (q : Nat) (w : Int32) : Int64 := if w = 0 then (lwF (4 * tn (D 28 9)) (chV D c q (2 ^ tn (D 28 9))) (1 <<< ((nI (4 * tn (D 28 9))).toInt64 &&& 63))).1 else (lwF (4 * tn (D 28 9)) (chV D c q (2 ^ tn (D 28 9))) (1 <<< ((nI (4 * tn (D 28 9))).toInt64 &&& 63))).2
section
variable {xl : Nat} {J : zJ} {I M D : zI}
theorem m_part {Q : zQ} {a b : Nat} {w : Int32} (ha : a < 2 ^ 62) (hb : b < 2 ^ 62) (hb0 : 0 < b) : Rn (zG xl) 103 0 [.long (lN a), .null, .long (lN b), .null, .int w, .null, .null, .null, .null, .null, .null] [] M J Q = Q (some (.long (if w = 0 then lN (a / Nat.gcd a b) else lN (b / Nat.gcd a b)))) M J := by
  have key : ∀ (y x : Nat) (v9 v10 : Value), x < 2 ^ 62 → y < 2 ^ 62 → (0 < x ∨ 0 < y) → Rn (zG xl) 103 6 [.long (lN a), .null, .long (lN b), .null, .int w, .long (lN x), .null, .long (lN y), .null, v9, v10] [] M J Q = Q (some (.long (if w = 0 then lN (a / Nat.gcd x y) else lN (b / Nat.gcd x y)))) M J := by
    intro y
    induction y using Nat.strongRecOn with
    | _ y ih =>
      intro x v9 v10 hx hy h0
      rw [h103_6]
      by_cases hz : y = 0
      · subst hz
        have x0 : ¬ lN x = 0 := by
          rw [show (0 : Int64) = lN 0 from rfl, pk_lEQ (by omega) (by decide)]
          omega
        have d1 : lN a / lN x = lN (a / x) := pk_lDiv (by omega) (by omega) (by omega)
        have d2 : lN b / lN x = lN (b / x) := pk_lDiv (by omega) (by omega) (by omega)
        have l0 : (lN 0 = (0 : Int64)) = True := eq_true rfl
        simp (disch := first | assumption | omega | (simp (disch := omega) only [zr_n, zr_s]; assumption)) only [x103_8, x103_9, x103_10, x103_13, x103_15, x103_17, x103_18, x103_20, x103_22, x103_24, x103_26, x103_28, x103_31, x103_33, x103_36, x103_37, x103_40, x103_41, x103_43, x103_44, ↓reduceIte, zkl_i, zkl_r, zkl_n, zkl_z, zkl_l, Option.toList_some, Option.toList_none, List.cons_append, List.nil_append, zcs_0, zcs_i, zcs_l, zcs_r, zle8, true_and, and_true, true_or, or_true, lgc_0, l0, if_true, x0, not_false_eq_true, d1, d2, Nat.gcd_zero_right]
        simp only [ite_QQ Q, ite_sm, ite_vi, ite_vl, ite_self]
      · have y0 : ¬ lN y = 0 := by
          rw [show (0 : Int64) = lN 0 from rfl, pk_lEQ (by omega) (by decide)]
          omega
        have rm : lN x - lN x / lN y * lN y = lN (x % y) := pk_lRem (by omega) (by omega) (by omega)
        have hlt : x % y < y := Nat.mod_lt _ (by omega)
        have hg : Nat.gcd x y = Nat.gcd y (x % y) := by rw [Nat.gcd_comm x y, Nat.gcd_rec y x, Nat.gcd_comm]
        rw [hg, ← ih (x % y) hlt y (.long (lN (x % y))) .null hy (by omega) (Or.inl (by omega))]
        simp (disch := first | assumption | omega | (simp (disch := omega) only [zr_n, zr_s]; assumption)) only [x103_8, x103_9, x103_10, x103_13, x103_15, x103_17, x103_18, x103_20, x103_22, x103_24, x103_26, x103_28, ↓reduceIte, zkl_i, zkl_r, zkl_n, zkl_z, zkl_l, Option.toList_some, Option.toList_none, List.cons_append, List.nil_append, zcs_0, zcs_i, zcs_l, zcs_r, zle8, true_and, and_true, true_or, or_true, lgc_0, y0, if_false, not_false_eq_true, rm]
  rw [← key b a .null .null ha hb (Or.inr hb0)]
  simp (disch := first | assumption | omega | (simp (disch := omega) only [zr_n, zr_s]; assumption)) only [x103_0, x103_1, x103_3, x103_4, ↓reduceIte, zkl_i, zkl_r, zkl_n, zkl_z, zkl_l, Option.toList_some, Option.toList_none, List.cons_append, List.nil_append, zcs_0, zcs_i, zcs_l, zcs_r, zle8, true_and, and_true, true_or, or_true]
theorem m_chanceOf {c q : Nat} {w : Int32} (h : MD D M) (h13 : D 28 13 = 0) (hc : c ≤ 16) (hq : q < tn (D 28 0)) : ∃ M' : zI, (∀ Q : zQ, Rn (zG xl) 178 0 [.ref 65, .int (nI c), .int (nI q), .int w, .null, .null, .null, .null, .null, .null] [] M J Q = Q (some (.long (chA D (nI c) q w))) M' J) ∧ MD D M' ∧ Fr M M' := by
  obtain ⟨b0, -, b3, -, b6, -, b9, -⟩ := Pk_l h.1
  have hpw := pw_e b9
  have inner : ∀ (k : Nat) (X : zI) (ab w0 : Int64), X 65 14 = nI (tn (D 28 9)) → ∀ Q : zQ, Rn (zG xl) 178 47 [.ref 65, .int (nI c), .int (nI q), .int w, .long ab, .null, .int (nI k), .long w0, .null, .int (nI 0)] [] X J Q = Rn (zG xl) 178 87 [.ref 65, .int (nI c), .int (nI q), .int w, .long ab, .null, .int (nI k), .long (fo (fun i w => w * (if nI k >>> (nI i &&& 31) &&& 1 = 1 then (16 - nI c).toInt64 else (nI c).toInt64)) (tn (D 28 9)) 0 w0), .null, .int (nI (tn (D 28 9)))] [] X J Q := by
    intro k X ab w0 e9 Q
    refine fo_loop0 (R := fun i s => Rn (zG xl) 178 47 [.ref 65, .int (nI c), .int (nI q), .int w, .long ab, .null, .int (nI k), .long s, .null, .int (nI i)] [] X J Q) (E := fun s => Rn (zG xl) 178 87 [.ref 65, .int (nI c), .int (nI q), .int w, .long ab, .null, .int (nI k), .long s, .null, .int (nI (tn (D 28 9)))] [] X J Q) (n := tn (D 28 9)) (fun i s hi => ?_) (fun s => ?_) w0
    · rw [h178_47]
      simp (disch := first | assumption | omega | (simp (disch := omega) only [zr_n, zr_s]; assumption)) only [x178_49, x178_50_65, x178_53, x178_56, x178_58, x178_60, x178_62, x178_65, x178_68, x178_70, x178_71, x178_72, x178_73, x178_76, x178_77, ↓reduceIte, zkl_i, zkl_r, zkl_n, zkl_z, zkl_l, Option.toList_some, Option.toList_none, List.cons_append, List.nil_append, zcs_0, zcs_i, zcs_l, zcs_r, zle8, true_and, and_true, true_or, or_true, e9, nI_ltI, hi, if_true, m_isIn, ite_Rn, ite_cons, ite_vi, ite_vl, ite_self, ite_zr, ite_zr1, ite_zr2, ite_upd, ite_upd1, ite_upd2]
      simp (disch := first | assumption | omega | (simp (disch := omega) only [zr_n, zr_s]; assumption)) only [x178_78, x178_79, x178_81, x178_84, ↓reduceIte, zkl_i, zkl_r, zkl_n, zkl_z, zkl_l, Option.toList_some, Option.toList_none, List.cons_append, List.nil_append, zcs_0, zcs_i, zcs_l, zcs_r, zle8, true_and, and_true, true_or, or_true, na_1]
      have e : ∀ (A B : Int64), (if isI (nI k) (nI i) = 0 then A else B) = if nI k >>> (nI i &&& 31) &&& 1 = 1 then B else A := by
        intro A B
        simp only [isI0]
        rcases and1 (nI k >>> (nI i &&& 31)) with h1 | h1
        · rw [if_pos h1, if_neg (by rw [h1]; decide)]
        · rw [if_neg (by rw [h1]; decide), if_pos h1]
      rw [e]
    · rw [h178_47]
      simp (disch := first | assumption | omega | (simp (disch := omega) only [zr_n, zr_s]; assumption)) only [x178_49, x178_50_65, x178_53, ↓reduceIte, zkl_i, zkl_r, zkl_n, zkl_z, zkl_l, Option.toList_some, Option.toList_none, List.cons_append, List.nil_append, zcs_0, zcs_i, zcs_l, zcs_r, zle8, true_and, and_true, true_or, or_true, e9, nI_ltI, Nat.lt_irrefl, if_false]
  have lp := lpE (R := fun k (s : Int64) (v : Value × Value × Value) X Q => Rn (zG xl) 178 6 [.ref 65, .int (nI c), .int (nI q), .int w, .long s, .null, .int (nI k), v.1, v.2.1, v.2.2] [] X J Q) (E := fun s X Q => Q (some (.long (if w = 0 then (lwF (4 * tn (D 28 9)) s (1 <<< ((nI (4 * tn (D 28 9))).toInt64 &&& 63))).1 else (lwF (4 * tn (D 28 9)) s (1 <<< ((nI (4 * tn (D 28 9))).toInt64 &&& 63))).2))) X J) (f := fun a x => if Nt (da D (nI a)) 39 q = -1 then x else x + wtF (tn (D 28 9)) (nI a) (nI c)) (n := 2 ^ tn (D 28 9)) (P := fun k s X => s = chV D (nI c) q k ∧ (∃ v, MD (da D v) X) ∧ Fr M X) (P' := fun s X => MD D X ∧ Fr M X) (fun k s v X hk hP => by
    obtain ⟨rfl, ⟨v', p1⟩, p2⟩ := hP
    have e9 := (MD_l p1).2.2.2
    rw [show da D v' 28 9 = D 28 9 by unfold da; rw [zr_s, upd_n (by decide)]] at e9
    have h1 : MD (da D (nI k)) (zr X 65 (upd (X 65) 16 (nI k))) := by
      have := MD_da (v := nI k) p1
      rw [da_da] at this
      exact this
    obtain ⟨M2, l1, l2, l3⟩ := m_livesD (xl := xl) (J := J) h1
    have e9' : M2 65 14 = nI (tn (D 28 9)) := by rw [l3 65 (by omega), zr_s, upd_n (by decide)]; exact e9
    have eb : M2 84 q = Nt (da D (nI k)) 39 q := (l2.2.1 q (by omega)).1
    refine ⟨(.long (fo (fun i w => w * (if nI k >>> (nI i &&& 31) &&& 1 = 1 then (16 - nI c).toInt64 else (nI c).toInt64)) (tn (D 28 9)) 0 (if Nt (da D (nI k)) 39 q = -1 then 0 else 1)), .null, .int (nI (tn (D 28 9)))), M2, fun Q => ?_, ?_, ⟨_, l2.1⟩, Fr_lives l3 (Fr_65 (by omega) p2)⟩
    · show Rn _ _ _ _ _ _ _ _ = Rn _ _ _ _ _ _ _ _
      rw [h178_6]
      simp (disch := first | assumption | omega | (simp (disch := omega) only [zr_n, zr_s]; assumption)) only [x178_8, x178_9, x178_10_65, x178_13, x178_14, x178_17, x178_18, x178_20_65, x178_23, x178_24, x178_27, x178_28_65, x178_31, x178_32, x178_33, x178_34, x178_37, x178_38, x178_41, gc_65, bi_84, bs_84, ↓reduceIte, zkl_i, zkl_r, zkl_n, zkl_z, zkl_l, Option.toList_some, Option.toList_none, List.cons_append, List.nil_append, zcs_0, zcs_i, zcs_l, zcs_r, zle8, true_and, and_true, true_or, or_true, e9, shl_e b9, nI_ltI, hk, if_true, l1, ixN_nI, nI_clamp, eb, ite_Rn, ite_cons, ite_vi, ite_vl, ite_self, ite_zr, ite_zr1, ite_zr2, ite_upd, ite_upd1, ite_upd2]
      simp (disch := first | assumption | omega | (simp (disch := omega) only [zr_n, zr_s]; assumption)) only [x178_42, x178_44, x178_45, ↓reduceIte, zkl_i, zkl_r, zkl_n, zkl_z, zkl_l, Option.toList_some, Option.toList_none, List.cons_append, List.nil_append, zcs_0, zcs_i, zcs_l, zcs_r, zle8, true_and, and_true, true_or, or_true]
      have hin := inner k M2 (chV D (nI c) q k) (if Nt (da D (nI k)) 39 q = -1 then 0 else 1) e9' Q
      rw [nI_0] at hin
      rw [hin]
      simp (disch := first | assumption | omega | (simp (disch := omega) only [zr_n, zr_s]; assumption)) only [x178_87, x178_89, x178_91, x178_92, x178_94, x178_97, ↓reduceIte, zkl_i, zkl_r, zkl_n, zkl_z, zkl_l, Option.toList_some, Option.toList_none, List.cons_append, List.nil_append, zcs_0, zcs_i, zcs_l, zcs_r, zle8, true_and, and_true, true_or, or_true, na_1]
      by_cases hz : Nt (da D (nI k)) 39 q = -1
      · simp only [hz, if_true, fo_0, Int64.add_zero]
      · simp only [hz, if_false]
        rfl
    · rw [chV, chV, fo_snoc, Nat.zero_add]) (fun s v X hP => by
    obtain ⟨rfl, ⟨v', p1⟩, p2⟩ := hP
    have e9 := (MD_l p1).2.2.2
    rw [show da D v' 28 9 = D 28 9 by unfold da; rw [zr_s, upd_n (by decide)]] at e9
    obtain ⟨sn, hsn, esn⟩ := ch_nat (D := D) (c := c) (i := q) hc b9 (2 ^ tn (D 28 9)) hpw
    have hp32 : 2 ^ (4 * tn (D 28 9)) ≤ 2 ^ 32 := Nat.pow_le_pow_right (by decide) (by omega)
    have hlw := lw_gcd (4 * tn (D 28 9)) 0 sn (by omega) (by omega)
    have n4 : ∀ k, (4 : Int32) * nI k = nI (4 * k) := fun k => pk_mul 4 k
    refine ⟨zr X 65 (upd (X 65) 16 0), fun Q => ?_, ?_, Fr_65 (by omega) p2⟩
    · show Rn _ _ _ _ _ _ _ _ = _
      have hpt := fun Q => m_part (xl := xl) (J := J) (M := zr X 65 (upd (X 65) 16 0)) (Q := Q) (a := sn) (b := 2 ^ (4 * tn (D 28 9))) (w := w) (by omega) (by omega) (Nat.two_pow_pos _)
      rw [h178_6, lwF, pw_l b9, esn, hlw]
      simp (disch := first | assumption | omega | (simp (disch := omega) only [zr_n, zr_s]; assumption)) only [x178_8, x178_9, x178_10_65, x178_13, x178_14, x178_100, x178_101, x178_102_65, x178_105, x178_107, x178_108, x178_109, x178_110_65, x178_113, x178_114, x178_115, x178_116, x178_119, ↓reduceIte, zkl_i, zkl_r, zkl_n, zkl_z, zkl_l, Option.toList_some, Option.toList_none, List.cons_append, List.nil_append, zcs_0, zcs_i, zcs_l, zcs_r, zle8, true_and, and_true, true_or, or_true, e9, shl_e b9, nI_ltI, Nat.lt_irrefl, if_false, zr_s, upd_n, n4, pw_l b9, hpt]
    · have := MD_da (v := 0) p1
      rw [da_da, ← h13, da_id] at this
      rw [h13] at this
      exact this) (2 ^ tn (D 28 9)) 0 0 (.null, .null, .null) M (Nat.zero_add _) ⟨rfl, ⟨D 28 13, by rw [da_id]; exact h⟩, Fr_refl M⟩
  obtain ⟨M', g1, g2⟩ := lp
  refine ⟨M', fun Q => ?_, g2⟩
  rw [chA]
  refine Eq.trans ?_ (g1 Q)
  simp (disch := first | assumption | omega | (simp (disch := omega) only [zr_n, zr_s]; assumption)) only [x178_0, x178_1, x178_3, x178_4, ↓reduceIte, zkl_i, zkl_r, zkl_n, zkl_z, zkl_l, Option.toList_some, Option.toList_none, List.cons_append, List.nil_append, zcs_0, zcs_i, zcs_l, zcs_r, zle8, true_and, and_true, true_or, or_true]
  rfl
end

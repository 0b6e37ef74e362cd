/-! ===== days; how many bits ===== -/
theorem nI_or (a b : Nat) : nI a ||| nI b = nI (a ||| b) := by
  apply Int32.toBitVec_inj.mp
  exact BitVec.ofNat_or.symm
theorem bits_in {c : Nat → Prop} [DecidablePred c] : ∀ (n : Nat), n ≤ 10 → ∃ j, j < 2 ^ n ∧ fo (fun k (s : Int32) => if c k then s ||| 1 <<< (nI k &&& 31) else s) n 0 0 = nI j := by
  intro n
  induction n with
  | zero => intro _; exact ⟨0, by decide, rfl⟩
  | succ n ih =>
    intro h
    obtain ⟨j, hj, e⟩ := ih (by omega)
    rw [fo_snoc, Nat.zero_add, e]
    have hs : ∀ e, e < 11 → (1 : Int32) <<< (nI e &&& 31) = nI (2 ^ e) := by decide +kernel
    have h2 : 2 ^ (n + 1) = 2 * 2 ^ n := by rw [Nat.pow_succ, Nat.mul_comm]
    by_cases hc : c n
    · refine ⟨j ||| 2 ^ n, Nat.or_lt_two_pow (by omega) (by rw [h2]; have := Nat.two_pow_pos n; omega), ?_⟩
      rw [if_pos hc, hs n (by omega), nI_or]
    · exact ⟨j, by omega, if_neg hc⟩
theorem bits_1024 {c : Nat → Prop} [DecidablePred c] {n : Nat} (h : n ≤ 10) : ∃ j, j < 1024 ∧ fo (fun k (s : Int32) => if c k then s ||| 1 <<< (nI k &&& 31) else s) n 0 0 = nI j := by
  obtain ⟨j, hj, e⟩ := bits_in (c := c) n h
  exact ⟨j, Nat.lt_of_lt_of_le hj (Nat.pow_le_pow_right (by decide) h), e⟩
theorem mk_bits (f g : Nat → Int32) (n : Nat) (m : Int32) : sp_mk f g n m = fo (fun k (s : Int32) => if ¬ f k = -1 ∧ ¬ m < g k then s ||| 1 <<< (nI k &&& 31) else s) n 0 0 := by
  unfold sp_mk
  refine fo_cgr n 0 0 (fun k s _ _ => ?_)
  unfold sp_mb
  by_cases h1 : f k = -1
  all_goals by_cases h2 : m < g k
  all_goals simp [h1, h2]
theorem pd_bits (f g : Nat → Int32) (n : Nat) : sp_pd f g n = fo (fun k (s : Int32) => if 0 < f k ∧ g k = -1 then s ||| 1 <<< (nI k &&& 31) else s) n 0 0 := by
  unfold sp_pd
  refine fo_cgr n 0 0 (fun k s _ _ => ?_)
  by_cases h1 : 0 < f k
  all_goals by_cases h2 : g k = -1
  all_goals simp [h1, h2]
def ush (x s : Int32) : Int32 := (x.toUInt32 >>> (s.toUInt32 &&& Int32.toUInt32 31)).toInt32
def bc1 (x : Int32) : Int32 := x - (ush x 1 &&& 1431655765)
def bc2 (x : Int32) : Int32 := (x &&& 858993459) + (ush x 2 &&& 858993459)
def bc3 (x : Int32) : Int32 := x + ush x 4 &&& 252645135
def bc4 (x : Int32) : Int32 := x + ush x 8
def bc5 (x : Int32) : Int32 := x + ush x 16
def bcF (x : Int32) : Int32 := bc5 (bc4 (bc3 (bc2 (bc1 x)))) &&& 63
def onF : Nat → Int32 → Int32 → Int32
  | 0, _, n => n
  | d + 1, l, n => if l = 0 then n else onF d (l &&& (l - 1)) (n + 1)
def on0 : Nat → Int32 → Bool
  | 0, l => l == 0
  | d + 1, l => l == 0 || on0 d (l &&& (l - 1))
def onB (b k : Nat) : Bool := on0 10 (nI (256 * b + k)) && (bcF (nI (256 * b + k)) == onF 10 (nI (256 * b + k)) 0)
theorem on_all : ∀ b, b < 4 → ∀ k, k < 256 → onB b k = true := by decide +kernel
theorem on_ok {j : Nat} (h : j < 1024) : on0 10 (nI j) = true ∧ bcF (nI j) = onF 10 (nI j) 0 := by
  have := on_all (j / 256) (by omega) (j % 256) (by omega)
  unfold onB at this
  rw [show 256 * (j / 256) + j % 256 = j by omega, Bool.and_eq_true, beq_iff_eq] at this
  exact this
theorem lot_in (s : Int32) {d : Nat} (h0 : 0 < d) (hd : d ≤ 10) : ∃ j, j < d ∧ lot s (nI d) = nI j := by
  have e : (s.toUInt32 >>> (Int32.toUInt32 16 &&& Int32.toUInt32 31)).toInt32 = nI (s.toBitVec.toNat / 2 ^ 16) := by
    apply Int32.toBitVec_inj.mp
    apply BitVec.eq_of_toNat_eq
    rw [pk_ushr s 16 16 (by decide), pk_tn]
    exact Nat.lt_of_le_of_lt (Nat.div_le_self _ _) s.toBitVec.isLt
  refine ⟨s.toBitVec.toNat / 2 ^ 16 % d, Nat.mod_lt _ h0, ?_⟩
  unfold lot
  rw [e]
  refine pk_rem ?_ h0 (by omega)
  have := s.toBitVec.isLt
  omega
theorem sp_dz_ok {X D : zI} {s : Int32} {n r l : Nat} (hr : D 28 3 = nI r) (hl : D 28 0 = nI l) (r0 : 0 < r) (l0 : 0 < l) (r6 : r ≤ 6) (l10 : l ≤ 10) (e3 : X 28 3 = D 28 3) (e0 : X 28 0 = D 28 0) : ∀ i, i < n → (sp_dz X s n).2.1 i = (sp_dz D s n).2.1 i ∧ (sp_dz X s n).2.2 i = (sp_dz D s n).2.2 i ∧ ixN ((sp_dz D s n).2.1 i) 6 ∧ ixN ((sp_dz D s n).2.2 i) 10 := by
  unfold sp_dz
  rw [e3, e0, hr, hl]
  have h := fo_rel (f := sp_dr (nI r) (nI l)) (g := sp_dr (nI r) (nI l)) (n := n) (fun k x y => x.1 = y.1 ∧ ∀ i, i < k → x.2.1 i = y.2.1 i ∧ x.2.2 i = y.2.2 i ∧ ixN (y.2.1 i) 6 ∧ ixN (y.2.2 i) 10) (fun k x y hk hP => by
    obtain ⟨h1, h2⟩ := hP
    unfold sp_dr
    refine ⟨by rw [h1], fun i hi => ?_⟩
    dsimp only
    rw [h1]
    by_cases e : i = k
    · subst e
      simp only [upd_s]
      obtain ⟨a, ha, ea⟩ := lot_in (nxs y.1) r0 (by omega)
      obtain ⟨b, hb, eb⟩ := lot_in (nxs (nxs y.1)) l0 l10
      rw [ea, eb]
      refine ⟨trivial, trivial, ?_, ?_⟩
      · rw [ixN_nI (by omega) (by decide)]; trivial
      · rw [ixN_nI (by omega) (by decide)]; trivial
    · simp only [upd_n e]
      exact h2 i (by omega)) n 0 (s, X 33, X 34) (s, D 33, D 34) (Nat.zero_add _) ⟨rfl, fun i hi => by omega⟩
  exact h.2
theorem CD_zdr {X D : zI} {s : Int32} {n : Nat} (hn : n ≤ 16) (h : CD 28 X D) : CD 28 (zdr X s n) (zdr D s n) := by
  have hl := Pk_l h.2.1
  obtain ⟨⟨⟨h0, h3, h6, h9, h13, h14⟩, hL, hR, hS, hE⟩, ⟨p0, p3, p6, p9, pS, pL⟩, g3, g4⟩ := h
  have t0' : tn (0 : Int32) = 0 := t0
  unfold zdr
  rw [h3, h0]
  by_cases c1 : D 28 3 = 0
  · rw [if_pos c1, if_pos c1]
    unfold CD Ag Pk HD
    simp (disch := omega) only [zr_n, zr_s, upd_n, upd_s]
    refine ⟨⟨⟨h0, h3, trivial, h9, h13, h14⟩, hL, hR, fun k hk => ?_, hE⟩, ⟨p0, p3, by unfold ixN; decide, p9, fun k hk => ?_, pL⟩, g3, g4⟩
    · rw [t0'] at hk; omega
    · rw [t0'] at hk; omega
  · rw [if_neg c1, if_neg c1]
    by_cases c2 : D 28 0 = 0
    · rw [if_pos c2, if_pos c2]
      unfold CD Ag Pk HD
      simp (disch := omega) only [zr_n, zr_s, upd_n, upd_s]
      refine ⟨⟨⟨h0, h3, trivial, h9, h13, h14⟩, hL, hR, fun k hk => ?_, hE⟩, ⟨p0, p3, by unfold ixN; decide, p9, fun k hk => ?_, pL⟩, g3, g4⟩
      · rw [t0'] at hk; omega
      · rw [t0'] at hk; omega
    · rw [if_neg c2, if_neg c2]
      obtain ⟨l0, el, l3, er, -⟩ := hl
      have r0 : 0 < tn (D 28 3) := by
        apply Nat.pos_of_ne_zero
        intro z
        rw [z] at er
        exact c1 er
      have q0 : 0 < tn (D 28 0) := by
        apply Nat.pos_of_ne_zero
        intro z
        rw [z] at el
        exact c2 el
      have hz := sp_dz_ok (X := X) (s := s) (n := n) er el r0 q0 l3 l0 h3 h0
      have tn' : tn (nI n) = n := nI_clamp (by omega)
      unfold CD Ag Pk HD
      simp (disch := omega) only [zr_n, zr_s, upd_n, upd_s, tn']
      refine ⟨⟨⟨h0, h3, trivial, h9, h13, h14⟩, hL, hR, fun k hk => ⟨(hz k hk).1, (hz k hk).2.1⟩, hE⟩, ⟨p0, p3, ?_, p9, fun k hk => ⟨(hz k hk).2.2.1, (hz k hk).2.2.2⟩, pL⟩, g3, g4⟩
      rw [ixN_nI (by omega) (by decide)]; trivial
section
variable {xl : Nat} {J : zJ} {I X D : zI}
theorem c_bitCount {Q : zQ} {x : Int32} : Rn (zG xl) 188 0 [.int x] [] I J Q = Q (some (.int (bcF x))) I J := by
  simp only [x188_0, x188_1, x188_2, x188_3, x188_4, x188_7, x188_8, x188_9, x188_10, x188_11, x188_14, x188_15, x188_16, x188_17, x188_18, x188_21, x188_22, x188_23, x188_24, x188_25, x188_26, x188_27, x188_28, x188_29, x188_32, x188_33, x188_34, x188_35, x188_36, x188_38, x188_39, x188_40, x188_41, x188_42, x188_43, x188_45, x188_46, x188_47, x188_48, x188_49, x188_51, x188_52, ↓reduceIte, zkl_i, zkl_r, zkl_n, zkl_z, zkl_l, Option.toList_some, Option.toList_none, List.cons_append, List.nil_append, zcs_0, zcs_i, zcs_l, zcs_r, zle8, true_and, and_true, true_or, or_true]
  rfl
theorem m_ones {Q : zQ} {x : Int32} (h : on0 10 x = true) : Rn (zG xl) 100 0 [.int x, .null, .null] [] I J Q = Q (some (.int (onF 10 x 0))) I J := by
  have key : ∀ (d : Nat) (l n : Int32), on0 d l = true → Rn (zG xl) 100 4 [.int x, .int n, .int l] [] I J Q = Q (some (.int (onF d l n))) I J := by
    intro d
    induction d with
    | zero =>
      intro l n hl
      rw [on0, beq_iff_eq] at hl
      rw [h100_4, onF]
      simp (disch := first | assumption | omega | (simp (disch := omega) only [zr_n, zr_s]; assumption)) only [x100_0, x100_1, x100_2, x100_3, x100_5, x100_8, x100_11, x100_12, x100_13, x100_14, x100_15, x100_16, x100_17, x100_20, x100_21, ↓reduceIte, zkl_i, zkl_r, zkl_n, zkl_z, zkl_l, Option.toList_some, Option.toList_none, List.cons_append, List.nil_append, zcs_0, zcs_i, zcs_l, zcs_r, zle8, true_and, and_true, true_or, or_true, hl, if_true]
    | succ d ih =>
      intro l n hl
      rw [on0, Bool.or_eq_true, beq_iff_eq] at hl
      rw [h100_4, onF]
      by_cases hz : l = 0
      · simp (disch := first | assumption | omega | (simp (disch := omega) only [zr_n, zr_s]; assumption)) only [x100_0, x100_1, x100_2, x100_3, x100_5, x100_8, x100_11, x100_12, x100_13, x100_14, x100_15, x100_16, x100_17, x100_20, x100_21, ↓reduceIte, zkl_i, zkl_r, zkl_n, zkl_z, zkl_l, Option.toList_some, Option.toList_none, List.cons_append, List.nil_append, zcs_0, zcs_i, zcs_l, zcs_r, zle8, true_and, and_true, true_or, or_true, hz, if_true]
      · rcases hl with hl | hl
        · exact absurd hl hz
        · simp (disch := first | assumption | omega | (simp (disch := omega) only [zr_n, zr_s]; assumption)) only [x100_0, x100_1, x100_2, x100_3, x100_5, x100_8, x100_11, x100_12, x100_13, x100_14, x100_15, x100_16, x100_17, x100_20, x100_21, ↓reduceIte, zkl_i, zkl_r, zkl_n, zkl_z, zkl_l, Option.toList_some, Option.toList_none, List.cons_append, List.nil_append, zcs_0, zcs_i, zcs_l, zcs_r, zle8, true_and, and_true, true_or, or_true, hz, if_false]
          exact ih _ _ hl
  rw [← key 10 x 0 h]
  simp (disch := first | assumption | omega | (simp (disch := omega) only [zr_n, zr_s]; assumption)) only [x100_0, x100_1, x100_2, x100_3, ↓reduceIte, zkl_i, zkl_r, zkl_n, zkl_z, zkl_l, Option.toList_some, Option.toList_none, List.cons_append, List.nil_append, zcs_0, zcs_i, zcs_l, zcs_r, zle8, true_and, and_true, true_or, or_true]
def dyF (D : zI) (s : Int32) (n : Nat) (w : Int32) : Int32 := if w = 0 then hD (zdr D s n) else onF 10 (urD (zdr D s n)) 0
theorem Pk_ur {D : zI} (h : Pk 28 D) : ∃ j, j < 1024 ∧ urD D = nI j := bits_1024 (Pk_l h).1
theorem Pk_mk {D : zI} {m : Int32} (h : Pk 28 D) : ∃ j, j < 1024 ∧ mkD D m = nI j := by
  unfold mkD
  rw [mk_bits]
  exact bits_1024 (Pk_l h).1
theorem Tr_zdr {s : Int32} {n : Nat} (h : Tr I X) : Tr I (zdr X s n) := by
  unfold zdr
  split
  · exact Tr_zr (by omega) h
  · split
    · exact Tr_zr (by omega) h
    · exact Tr_zr (by omega) (Tr_zr (by omega) (Tr_zr (by omega) h))
theorem c_days {s w : Int32} {n : Nat} (h : CD 8 I D) (hn : n ≤ 16) (hw : w = 0 ∨ w = 1) : ∃ X : zI, (∀ Q : zQ, Rn (zG xl) 66 0 [.ref 0, .int s, .int (nI n), .int w] [] I J Q = Q (some (.int (dyF D s n w))) X J) ∧ Tr I X := by
  have h1 : CD 28 (zdr (ztf I) s n) (zdr D s n) := CD_zdr hn (CD_ztf h)
  have hN : CN 38 28 (zps 38 28 (zdr (ztf I) s n)) (zdr D s n) := CN_pass (by decide) (by decide) h1
  refine ⟨zps 38 28 (zdr (ztf I) s n), fun Q => ?_, Tr_zps (Tr_zdr Tr_ztf)⟩
  have hd1 := fun Q => d_pass_38 (xl := xl) (J := J) (Q := Q) h1
  have hd2 := fun Q => d_harmOf_38 (xl := xl) (J := J) (Q := Q) hN
  have hd3 := fun Q => d_unread_38 (xl := xl) (J := J) (Q := Q) hN
  have n0 : ¬ nI n < 0 := nI_pos (by omega)
  have n17 : nI n < 17 := (nI_ltI (b := 17) (by omega) (by decide)).mpr (by omega)
  have w0 : ¬ w < 0 := by rcases hw with rfl | rfl <;> decide
  have w2 : w < 2 := by rcases hw with rfl | rfl <;> decide
  obtain ⟨j, hj, ej⟩ := Pk_ur h1.2.1
  rw [dyF]
  by_cases hz : w = 0
  · subst hz
    simp (disch := first | assumption | omega | (simp (disch := omega) only [zr_n, zr_s]; assumption)) only [x66_0, x66_1, x66_3, x66_6, x66_9, x66_10, x66_11, x66_14, x66_17, x66_19, x66_20, x66_21_0, x66_24, x66_25_0, x66_28, x66_31, x66_32_0, x66_35, x66_36, x66_37, x66_40, x66_41_0, x66_44, x66_45_0, x66_48, x66_51, x66_52, x66_55, x66_56_0, x66_59, x66_60_0, x66_63, x66_66, x66_69, x66_70_0, x66_73, x66_76, x66_79, gc_8, gc_28, gc_38, ↓reduceIte, zkl_i, zkl_r, zkl_n, zkl_z, zkl_l, Option.toList_some, Option.toList_none, List.cons_append, List.nil_append, zcs_0, zcs_i, zcs_l, zcs_r, zle8, true_and, and_true, true_or, or_true, c_below, n0, n17, w0, w2, if_true, if_false, i1_0, c_takeFrom, c_drawShifts, hd1, hd2, i0_0]
  · simp (disch := first | assumption | omega | (simp (disch := omega) only [zr_n, zr_s]; assumption)) only [x66_0, x66_1, x66_3, x66_6, x66_9, x66_10, x66_11, x66_14, x66_17, x66_19, x66_20, x66_21_0, x66_24, x66_25_0, x66_28, x66_31, x66_32_0, x66_35, x66_36, x66_37, x66_40, x66_41_0, x66_44, x66_45_0, x66_48, x66_51, x66_52, x66_55, x66_56_0, x66_59, x66_60_0, x66_63, x66_66, x66_69, x66_70_0, x66_73, x66_76, x66_79, gc_8, gc_28, gc_38, ↓reduceIte, zkl_i, zkl_r, zkl_n, zkl_z, zkl_l, Option.toList_some, Option.toList_none, List.cons_append, List.nil_append, zcs_0, zcs_i, zcs_l, zcs_r, zle8, true_and, and_true, true_or, or_true, c_below, n0, n17, w0, w2, if_true, if_false, i1_0, c_takeFrom, c_drawShifts, hd1, hd3, hz, c_bitCount]
    rw [ej, (on_ok hj).2]
end

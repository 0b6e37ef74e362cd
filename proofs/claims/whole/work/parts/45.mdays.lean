/-! ===== the reference: days ===== -/
section
variable {xl : Nat} {J : zJ} {I M : zI}
theorem m_lot {Q : zQ} {m : Int32} (hm : ¬ m = 0) : Rn (zG xl) 180 0 [.ref 65, .int m] [] M J Q = Q (some (.int (lot (nxs (M 65 31)) m))) (zr M 65 (upd (M 65) 31 (nxs (M 65 31)))) J := by
  simp (disch := first | assumption | omega | (simp (disch := omega) only [zr_n, zr_s]; assumption)) only [x180_0, x180_1, x180_4, x180_5_65, x180_8, x180_9, x180_12, x180_13_65, x180_16, x180_17_65, x180_20, x180_22, x180_23, x180_24, x180_25, ↓reduceIte, zkl_i, zkl_r, zkl_n, zkl_z, zkl_l, Option.toList_some, Option.toList_none, List.cons_append, List.nil_append, zcs_0, zcs_i, zcs_l, zcs_r, zle8, true_and, and_true, true_or, or_true, zr_s, upd_s, hm, not_false_eq_true]
  rfl
theorem gt0 {n : Nat} (h : 0 < n) (h2 : n < 1000) : (0 : Int32) < nI n := (nI_ltI (a := 0) (by decide) (by omega)).mpr h
theorem m_daysOf {s w : Int32} {n : Nat} (hC : RP I) (hM : RM I M) (h : MD (pD I) M) (hn : n ≤ 16) (hw : w = 0 ∨ w = 1) : ∃ M' : zI, (∀ Q : zQ, Rn (zG xl) 181 0 [.ref 65, .int s, .int (nI n), .int w, .null] [] M J Q = Q (some (.int (dyF (pD I) s n w))) M' J) ∧ MD (pD I) M' ∧ Fr M M' := by
  generalize hD0 : pD I = D at h ⊢
  obtain ⟨b0, e0', b3, e3', b6, e6', b9, e9'⟩ := Pk_l h.1
  obtain ⟨e0, e3, e6, e9⟩ := MD_l h
  have hcl : CD 28 D D := ⟨Ag_refl 28 D, h.1, h.2.1, h.2.1⟩
  have hcz := CD_zdr (s := s) hn hcl
  have draw : ∃ (v4 : Value) (M1 : zI), (∀ Q : zQ, Rn (zG xl) 181 0 [.ref 65, .int s, .int (nI n), .int w, .null] [] M J Q = Rn (zG xl) 181 85 [.ref 65, .int s, .int (nI n), .int w, v4] [] M1 J Q) ∧ PAg 28 (zdr D s n) M1 ∧ (∀ c, c ≠ 65 → c ≠ 74 → M1 c = M c) ∧ ∀ j, j ≠ 11 → j ≠ 31 → M1 65 j = M 65 j := by
    obtain ⟨⟨p0, p3, p6, p9, pS, pL⟩, g3, ⟨⟨h0, h3, h6, h14, h9, h13⟩, hL, hR, hS, hE⟩⟩ := h
    by_cases hz : D 28 3 = 0 ∨ D 28 0 = 0
    · refine ⟨.int 0, zr M 65 (upd (upd (M 65) 31 s) 11 0), fun Q => ?_, ?_, fun c c1 c2 => zr_n c1, fun j j1 j2 => by rw [zr_s, upd_n j1, upd_n j2]⟩
      · have q3 : upd (upd (M 65) 31 s) 11 0 9 = D 28 3 := by rw [upd_n (by decide), upd_n (by decide)]; exact h3
        have q0 : upd (upd (M 65) 31 s) 11 0 7 = D 28 0 := by rw [upd_n (by decide), upd_n (by decide)]; exact h0
        simp (disch := first | assumption | omega | (simp (disch := omega) only [zr_n, zr_s]; assumption)) only [x181_0, x181_1, x181_2_65, x181_5, x181_6, x181_7_65, x181_10, x181_11, ↓reduceIte, zkl_i, zkl_r, zkl_n, zkl_z, zkl_l, Option.toList_some, Option.toList_none, List.cons_append, List.nil_append, zcs_0, zcs_i, zcs_l, zcs_r, zle8, true_and, and_true, true_or, or_true, zr_s, zr_zr]
        rw [h181_13]
        by_cases c1 : (0 : Int32) < nI n
        · by_cases c2 : (0 : Int32) < D 28 3
          · have c3 : ¬ (0 : Int32) < D 28 0 := by
              rcases hz with hz | hz
              · rw [hz] at c2; exact absurd c2 (by decide)
              · rw [hz]; decide
            simp (disch := first | assumption | omega | (simp (disch := omega) only [zr_n, zr_s]; assumption)) only [x181_15, x181_16, x181_19, x181_20_65, x181_23, x181_26, x181_27_65, x181_30, ↓reduceIte, zkl_i, zkl_r, zkl_n, zkl_z, zkl_l, Option.toList_some, Option.toList_none, List.cons_append, List.nil_append, zcs_0, zcs_i, zcs_l, zcs_r, zle8, true_and, and_true, true_or, or_true, zr_s, q3, q0, c1, c2, c3, if_true, if_false]
          · simp (disch := first | assumption | omega | (simp (disch := omega) only [zr_n, zr_s]; assumption)) only [x181_15, x181_16, x181_19, x181_20_65, x181_23, x181_26, x181_27_65, x181_30, ↓reduceIte, zkl_i, zkl_r, zkl_n, zkl_z, zkl_l, Option.toList_some, Option.toList_none, List.cons_append, List.nil_append, zcs_0, zcs_i, zcs_l, zcs_r, zle8, true_and, and_true, true_or, or_true, zr_s, q3, q0, c1, c2, if_true, if_false]
        · simp (disch := first | assumption | omega | (simp (disch := omega) only [zr_n, zr_s]; assumption)) only [x181_15, x181_16, x181_19, x181_20_65, x181_23, x181_26, x181_27_65, x181_30, ↓reduceIte, zkl_i, zkl_r, zkl_n, zkl_z, zkl_l, Option.toList_some, Option.toList_none, List.cons_append, List.nil_append, zcs_0, zcs_i, zcs_l, zcs_r, zle8, true_and, and_true, true_or, or_true, zr_s, q3, q0, c1, if_false]
      · have ez : zdr D s n = zr D 28 (upd (D 28) 6 0) := by
          unfold zdr
          by_cases c1 : D 28 3 = 0
          · rw [if_pos c1]
          · rcases hz with hz | hz
            · exact absurd hz c1
            · rw [if_neg c1, if_pos hz]
        rw [ez]
        unfold PAg
        simp (disch := omega) only [zr_n, zr_s, upd_n, upd_s]
        refine ⟨⟨h0, h3, trivial, h14, h9, h13⟩, hL, hR, fun i hi => ?_, hE⟩
        rw [show tn (0 : Int32) = 0 from t0] at hi
        omega
    · have z3 : ¬ D 28 3 = 0 := fun z => hz (Or.inl z)
      have z0 : ¬ D 28 0 = 0 := fun z => hz (Or.inr z)
      have r0 : 0 < tn (D 28 3) := by
        apply Nat.pos_of_ne_zero
        intro z
        rw [z] at e3'
        exact z3 e3'
      have q0 : 0 < tn (D 28 0) := by
        apply Nat.pos_of_ne_zero
        intro z
        rw [z] at e0'
        exact z0 e0'
      have g3' : (0 : Int32) < D 28 3 := by rw [e3']; exact gt0 r0 (by omega)
      have g0' : (0 : Int32) < D 28 0 := by rw [e0']; exact gt0 q0 (by omega)
      have lp := lpV (R := fun k (x : Int32 × (Nat → Int32) × (Nat → Int32)) (v : Unit) X Q => Rn (zG xl) 181 13 [.ref 65, .int s, .int (nI n), .int w, .int (nI k)] [] X J Q) (E := fun x (v : Unit) X Q => Rn (zG xl) 181 85 [.ref 65, .int s, .int (nI n), .int w, .int (nI n)] [] X J Q) (f := sp_dr (D 28 3) (D 28 0)) (n := n) (P := fun k x X => X 65 31 = x.1 ∧ X 65 11 = nI k ∧ (∀ i, i < k → X 74 (2 * i) = x.2.1 i ∧ X 74 (2 * i + 1) = x.2.2 i) ∧ (∀ c, c ≠ 65 → c ≠ 74 → X c = M c) ∧ ∀ j, j ≠ 11 → j ≠ 31 → X 65 j = M 65 j) (P' := fun x X => X 65 11 = nI n ∧ (∀ i, i < n → X 74 (2 * i) = x.2.1 i ∧ X 74 (2 * i + 1) = x.2.2 i) ∧ (∀ c, c ≠ 65 → c ≠ 74 → X c = M c) ∧ ∀ j, j ≠ 11 → j ≠ 31 → X 65 j = M 65 j) (fun k x v X hk hP => by
        obtain ⟨p1, p2, p3, p4, p5⟩ := hP
        have x3 : X 65 9 = D 28 3 := (p5 9 (by decide) (by decide)).trans h3
        have x0 : X 65 7 = D 28 0 := (p5 7 (by decide) (by decide)).trans h0
        refine ⟨(), zr (zr (zr (zr (zr X 65 (upd (X 65) 31 (nxs x.1))) 74 (upd (X 74) (2 * k) (lot (nxs x.1) (D 28 3)))) 65 (upd (upd (X 65) 31 (nxs x.1)) 31 (nxs (nxs x.1)))) 74 (upd (upd (X 74) (2 * k) (lot (nxs x.1) (D 28 3))) (2 * k + 1) (lot (nxs (nxs x.1)) (D 28 0)))) 65 (upd (upd (upd (X 65) 31 (nxs x.1)) 31 (nxs (nxs x.1))) 11 (nI (k + 1))), fun Q => ?_, ?_, ?_, fun i hi => ?_, fun c c1 c2 => ?_, fun j j1 j2 => ?_⟩
        · show Rn _ _ _ _ _ _ _ _ = Rn _ _ _ _ _ _ _ _
          rw [h181_13]
          simp (disch := first | assumption | omega | (simp (disch := omega) only [zr_n, zr_s]; assumption)) only [x181_15, x181_16, x181_19, x181_20_65, x181_23, x181_26, x181_27_65, x181_30, x181_33, x181_34_65, x181_37, x181_38, x181_40, x181_41, x181_42, x181_43_65, x181_46, x181_49, x181_50, x181_51_65, x181_54, x181_55, x181_57, x181_58, x181_59, x181_60, x181_61, x181_62_65, x181_65, x181_68, x181_69, x181_70i, x181_70r, x181_71_65, x181_74, x181_75, x181_76_65, x181_79, x181_82, gc_65, bi_74, bs_74, ↓reduceIte, zkl_i, zkl_r, zkl_n, zkl_z, zkl_l, Option.toList_some, Option.toList_none, List.cons_append, List.nil_append, zcs_0, zcs_i, zcs_l, zcs_r, zle8, true_and, and_true, true_or, or_true, nI_ltI, hk, if_true, x3, x0, g3', g0', z3, z0, m_lot, p1, p2, nm_2, na_1, ixN_nI, nI_clamp, zr_s, zr_n, upd_s, upd_n]
        · rw [zr_s, upd_n (by decide), upd_s]
          rfl
        · rw [zr_s, upd_s]
        · rw [zr_n (by decide), zr_s]
          unfold sp_dr
          dsimp only
          by_cases e : i = k
          · subst e
            rw [upd_n (show 2 * i ≠ 2 * i + 1 by omega), upd_s, upd_s, upd_s, upd_s]
            exact ⟨rfl, rfl⟩
          · rw [upd_n e, upd_n e, upd_n (show 2 * i ≠ 2 * k + 1 by omega), upd_n (show 2 * i ≠ 2 * k by omega), upd_n (show 2 * i + 1 ≠ 2 * k + 1 by omega), upd_n (show 2 * i + 1 ≠ 2 * k by omega)]
            exact p3 i (by omega)
        · rw [zr_n c1, zr_n c2, zr_n c1, zr_n c2, zr_n c1]
          exact p4 c c1 c2
        · rw [zr_s, upd_n j1, upd_n j2, upd_n j2]
          exact p5 j j1 j2) (fun x v X hP => by
        obtain ⟨p1, p2, p3, p4, p5⟩ := hP
        refine ⟨(), X, fun Q => ?_, p2, p3, p4, p5⟩
        show Rn _ _ _ _ _ _ _ _ = Rn _ _ _ _ _ _ _ _
        rw [h181_13]
        simp (disch := first | assumption | omega | (simp (disch := omega) only [zr_n, zr_s]; assumption)) only [x181_15, x181_16, ↓reduceIte, zkl_i, zkl_r, zkl_n, zkl_z, zkl_l, Option.toList_some, Option.toList_none, List.cons_append, List.nil_append, zcs_0, zcs_i, zcs_l, zcs_r, zle8, true_and, and_true, true_or, or_true, nI_ltI, Nat.lt_irrefl, if_false]) n 0 (s, D 33, D 34) () (zr M 65 (upd (upd (M 65) 31 s) 11 0)) (Nat.zero_add _) ⟨by rw [zr_s, upd_n (by decide), upd_s], by rw [zr_s, upd_s]; rfl, fun i hi => by omega, fun c c1 c2 => zr_n c1, fun j j1 j2 => by rw [zr_s, upd_n j1, upd_n j2]⟩
      obtain ⟨-, M1, l1, l2, l3, l4, l5⟩ := lp
      refine ⟨.int (nI n), M1, fun Q => ?_, ?_, l4, l5⟩
      · refine Eq.trans ?_ (l1 Q)
        simp (disch := first | assumption | omega | (simp (disch := omega) only [zr_n, zr_s]; assumption)) only [x181_0, x181_1, x181_2_65, x181_5, x181_6, x181_7_65, x181_10, x181_11, ↓reduceIte, zkl_i, zkl_r, zkl_n, zkl_z, zkl_l, Option.toList_some, Option.toList_none, List.cons_append, List.nil_append, zcs_0, zcs_i, zcs_l, zcs_r, zle8, true_and, and_true, true_or, or_true, zr_s, zr_zr]
        rfl
      · have ez : zdr D s n = zr (zr (zr D 33 (sp_dz D s n).2.1) 34 (sp_dz D s n).2.2) 28 (upd (D 28) 6 (nI n)) := by
          unfold zdr
          rw [if_neg z3, if_neg z0]
        have tn' : tn (nI n) = n := nI_clamp (by omega)
        rw [ez]
        unfold PAg
        simp (disch := omega) only [zr_n, zr_s, upd_n, upd_s, tn']
        rw [l4 72 (by decide) (by decide), l4 73 (by decide) (by decide), l4 75 (by decide) (by decide), l5 7 (by decide) (by decide), l5 9 (by decide) (by decide), l5 13 (by decide) (by decide), l5 14 (by decide) (by decide), l5 16 (by decide) (by decide)]
        exact ⟨⟨h0, h3, l2, h14, h9, h13⟩, hL, hR, l3, hE⟩
  obtain ⟨v4, M1, d1, d2, d3, d4⟩ := draw
  have hz0 : zdr D s n 28 0 = D 28 0 := by
    unfold zdr
    split
    · rw [zr_s, upd_n (by decide)]
    · split
      · rw [zr_s, upd_n (by decide)]
      · rw [zr_s, upd_n (by decide)]
  have hz30 : zdr D s n 30 = D 30 := by
    unfold zdr
    split
    · rw [zr_n (by decide)]
    · split
      · rw [zr_n (by decide)]
      · rw [zr_n (by decide), zr_n (by decide), zr_n (by decide)]
  obtain ⟨M2, l1, l2, l3⟩ := m_livesD (xl := xl) (J := J) (D := zdr D s n) ⟨hcz.2.1, hcz.2.2.1, d2⟩
  have k1 : ∀ c, c ≠ 65 → c ≠ 74 → c < 76 ∨ 86 < c → M2 c = M c := fun c c1 c2 c3 => (l3 c c3).trans (d3 c c1 c2)
  have hT : TXM 2 96 6 I M2 := by
    unfold TXM
    rw [k1 70 (by decide) (by decide) (by omega), k1 71 (by decide) (by decide) (by omega)]
    exact hM.2.2.1
  obtain ⟨M3, c1, c2, c3, c4, c5⟩ := r_readsShifts (xl := xl) (J := J) hC.2.2.1 hT
  have k65 : ∀ j, j ≠ 11 → j ≠ 31 → M3 65 j = M 65 j := fun j j1 j2 => (c3 j j1).trans ((congrFun (l3 65 (by omega)) j).trans (d4 j j1 j2))
  have e7 : M3 65 7 = nI (tn (D 28 0)) := (k65 7 (by decide) (by decide)).trans e0
  have b0' : tn (zdr D s n 28 0) = tn (D 28 0) := by rw [hz0]
  have hMD : MD D M3 := by
    obtain ⟨hp, hh, ⟨⟨h0, h3, h6, h14, h9, h13⟩, hL, hR, hS, hE⟩⟩ := h
    refine ⟨hp, hh, ⟨?_, ?_, ?_, ?_, ?_, ?_⟩, ?_, ?_, ?_, ?_⟩
    · rw [k65 7 (by decide) (by decide)]; exact h0
    · rw [k65 9 (by decide) (by decide)]; exact h3
    · rw [c2, ← hD0]; rfl
    · rw [k65 13 (by decide) (by decide)]; exact h14
    · rw [k65 14 (by decide) (by decide)]; exact h9
    · rw [k65 16 (by decide) (by decide)]; exact h13
    · rw [c5 72 (by decide) (by decide), k1 72 (by decide) (by decide) (by omega)]; exact hL
    · rw [c5 73 (by decide) (by decide), k1 73 (by decide) (by decide) (by omega)]; exact hR
    · rw [← hD0]; exact c4
    · rw [c5 75 (by decide) (by decide), k1 75 (by decide) (by decide) (by omega)]; exact hE
  have hFr : Fr M M3 := by
    refine ⟨fun c hc => ?_, k65 4 (by decide) (by decide), k65 28 (by decide) (by decide)⟩
    rw [c5 c (by omega) (by omega), k1 c (by omega) (by omega) (by omega)]
  have hhm := fun Q => m_harmNowG (xl := xl) (J := J) (Q := Q) (M := M3) (n := tn (D 28 0)) (f := Nt (zdr D s n) 39) (g := D 30) e7 b0 (fun k hk => by rw [c5 84 (by decide) (by decide)]; exact (l2.2.1 k hk).1) (fun k hk => (hMD.2.2.2.1 k hk).2)
  have hlf := fun Q => m_leftByG (xl := xl) (J := J) (Q := Q) (M := M3) (w := 0) (n := tn (D 28 0)) (f := Nt (zdr D s n) 39) (g := Nt (zdr D s n) 41) e7 b0 (fun k hk => by rw [c5 84 (by decide) (by decide), c5 86 (by decide) (by decide)]; exact ⟨(l2.2.1 k hk).1, (l2.2.1 k hk).2.2⟩)
  have eh : hD (zdr D s n) = sp_hm (Nt (zdr D s n) 39) (D 30) (tn (D 28 0)) := by rw [hD, hz30, b0']
  have eu : urD (zdr D s n) = sp_ur (Nt (zdr D s n) 41) (tn (D 28 0)) := by rw [urD, b0']
  obtain ⟨j, hj, ej⟩ := Pk_ur hcz.2.1
  have hon := fun Q => m_ones (xl := xl) (J := J) (I := M3) (Q := Q) (x := urD (zdr D s n)) (by rw [ej]; exact (on_ok hj).1)
  refine ⟨M3, fun Q => ?_, hMD, hFr⟩
  rw [d1 Q, dyF]
  rcases hw with rfl | rfl
  · simp (disch := first | assumption | omega | (simp (disch := omega) only [zr_n, zr_s]; assumption)) only [x181_85, x181_86, x181_89, x181_90, x181_93i, x181_93r, x181_94, x181_95, x181_98, x181_99, x181_102, x181_105, x181_106, x181_107, x181_110, x181_113, gc_65, ↓reduceIte, zkl_i, zkl_r, zkl_n, zkl_z, zkl_l, Option.toList_some, Option.toList_none, List.cons_append, List.nil_append, zcs_0, zcs_i, zcs_l, zcs_r, zle8, true_and, and_true, true_or, or_true, l1, c1, i0_0, if_true, hhm, eh]
  · rw [eu] at hon
    simp (disch := first | assumption | omega | (simp (disch := omega) only [zr_n, zr_s]; assumption)) only [x181_85, x181_86, x181_89, x181_90, x181_93i, x181_93r, x181_94, x181_95, x181_98, x181_99, x181_102, x181_105, x181_106, x181_107, x181_110, x181_113, gc_65, ↓reduceIte, zkl_i, zkl_r, zkl_n, zkl_z, zkl_l, Option.toList_some, Option.toList_none, List.cons_append, List.nil_append, zcs_0, zcs_i, zcs_l, zcs_r, zle8, true_and, and_true, true_or, or_true, l1, c1, i1_0, i0_0, if_true, if_false, hlf, hon, eu]
end

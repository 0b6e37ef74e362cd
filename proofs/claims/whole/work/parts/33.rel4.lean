/-! ===== one shift of both, whichever way it goes; a night of both ===== -/
def HD (I : zI) : Prop := I 1000 0 = 1 ∧ I 1000 1 = 3 ∧ I 1000 2 = 5
theorem HD_k {I : zI} (h : HD I) {s : Int32} (hs : ixN s 3) : I 1000 (tn s) = 1 + 2 * s := by
  obtain ⟨k, hk, rfl⟩ := (ixN_iff (by decide)).mp hs
  rw [tn, nI_clamp (by omega)]
  have hk : k = 0 ∨ k = 1 ∨ k = 2 := by omega
  rcases hk with rfl | rfl | rfl
  · exact h.1.trans (by decide)
  · exact h.2.1.trans (by decide)
  · exact h.2.2.trans (by decide)
theorem zd0_a {i : Nat} {M : zI} : zd0 i M 76 = upd (M 76) i (-1) := by
  unfold zd0
  rw [zr_n (by decide), zr_s]
theorem zd0_b {i : Nat} {M : zI} : zd0 i M 77 = upd (M 77) i 0 := by
  unfold zd0
  rw [zr_s]
theorem zd0_n {i c : Nat} {M : zI} (h1 : c ≠ 76) (h2 : c ≠ 77) : zd0 i M c = M c := by
  unfold zd0
  rw [zr_n h2, zr_n h1]
theorem PAg_f {P : Nat} {I I' M M' : zI} (h : ∀ c, P ≤ c → c ≤ P + 9 → I' c = I c) (hm : ∀ c, c < 76 → M' c = M c) (ha : PAg P I M) : PAg P I' M' := by
  unfold PAg
  rw [h P (by omega) (by omega), h (P + 1) (by omega) (by omega), h (P + 2) (by omega) (by omega), h (P + 3) (by omega) (by omega), h (P + 4) (by omega) (by omega), h (P + 5) (by omega) (by omega), h (P + 6) (by omega) (by omega), h (P + 7) (by omega) (by omega), h (P + 8) (by omega) (by omega), h (P + 9) (by omega) (by omega), hm 65 (by omega), hm 72 (by omega), hm 73 (by omega), hm 74 (by omega), hm 75 (by omega)]
  exact ha
theorem pc_nI (P : Nat) (A : zI) (r : Int32) : ∃ p, (p = 1 ∨ p = 2) ∧ sp_pc P A r = nI p := by
  unfold sp_pc
  by_cases h : A (P + 3) (tn r) = 0
  · exact ⟨2, Or.inr rfl, by rw [if_pos h]; rfl⟩
  · exact ⟨1, Or.inl rfl, by rw [if_neg h]; rfl⟩
theorem pc_d (P : Nat) (A : zI) (q : Nat) (hq : q < 6) (x : Int32) : x + sp_pc P A (nI q) - 1 = if A (P + 3) q = 0 then x + 1 else x := by
  unfold sp_pc
  rw [tn, nI_clamp (by omega)]
  by_cases h : A (P + 3) q = 0
  · rw [if_pos h, if_pos h, Int32.sub_eq_add_neg, Int32.add_assoc]
    rfl
  · rw [if_neg h, if_neg h, Int32.sub_eq_add_neg, Int32.add_assoc, show (1 : Int32) + -1 = 0 by decide, Int32.add_zero]
section
variable {xl : Nat} {J : zJ} {N P i : Nat} {A M : zI}
theorem NR_done {M' : zI} {q w d : Nat} (hN : P + 9 < N) (hN2 : N < 900) (hi : i < 17) (hq : q < 6) (hw : w < 10) (hR : NR N P i A M) (h9 : ixN (A P 9) 9) (hH : HD A) (hA : PAg P A M) (es : ixN (A (P + 1) w) 3) (eq : A (P + 5) i = nI q) (ew : A (P + 6) i = nI w) (e1 : M 73 (2 * q) = A (P + 3) q) (e2 : M 73 (2 * q + 1) = A (P + 4) q) (e3 : M 72 (2 * w) = A (P + 1) w) (e4 : M 72 (2 * w + 1) = A (P + 2) w)
    (hd : A (N + 4) q = nI d) (hover : M 83 q = 0) (hl : sp_e N P A (nI q) < A P 14)
    (g76 : M' 76 = upd (M 76) i (M 78 q)) (g77 : M' 77 = upd (M 77) i (dfn M (nI q) (nI w))) (g79 : M' 79 = upd (M 79) q (dT1 M (nI q) + (if M 73 (2 * q) = 0 then 2 else 1))) (g82 : M' 82 = upd (M 82) q (M 78 q)) (g78 : M' 78 = upd (M 78) q (dto M (nI q) + 1)) (g80 : M' 80 = upd (M 80) q (M 80 q + 1)) (g86 : M' 86 = upd (M 86) w (M 86 w + 1))
    (g81 : M' 81 = (if dfn M (nI q) (nI w) = 0 then M 81 else upd (M 81) q (M 81 q + 1))) (g84 : M' 84 = (if dfn M (nI q) (nI w) = 0 then M 84 else upd (M 84) w (if dfi M (nI q) (nI w) = 0 then M 84 w else nI q))) (g85 : M' 85 = (if dfn M (nI q) (nI w) = 0 then M 85 else upd (M 85) w (if dfi M (nI q) (nI w) = 0 then M 85 w else dto M (nI q)))) (g83 : M' 83 = M 83) : NR N P (i + 1) (zds N P i A) M' := by
  have hq2 : tn (nI q) = q := nI_clamp (by omega)
  have hw2 : tn (nI w) = w := nI_clamp (by omega)
  obtain ⟨z8, z3, z5, z4, z6, zn, zy⟩ := zds_rows hN eq ew hl
  rw [hq2] at z5 z4 z6
  rw [hw2] at z3
  have zP : ∀ c, c < N ∨ N + 9 < c → zds N P i A c = A c := fun c hc => zds_f hc
  obtain ⟨h1, h2, h3, h4⟩ := hR
  obtain ⟨d', d0, d1, d2, d3, d4, d5, d6, d7, d8⟩ := h1 q hq
  have hdd : nI d' = nI d := d1.symm.trans hd
  rw [hdd] at d1 d2 d5 d8
  have hb : sp_b N P A (nI q) = M 78 q := by
    unfold sp_b
    rw [hq2, hd, d5]
  have ht : dto M (nI q) = sp_e N P A (nI q) := by
    unfold sp_e
    rw [pc_d P A q hq, hb, dto, hq2, e1]
  have hp2 : (if M 73 (2 * q) = 0 then (2 : Int32) else 1) = sp_pc P A (nI q) := by
    unfold sp_pc
    rw [hq2, e1]
  have hcs : M 82 q + 1 = (if sp_b N P A (nI q) = 0 then 0 else sp_b N P A (nI q) - sp_pc P A (nI q) + 1) := by
    obtain ⟨p, hp, ep⟩ := pc_nI P A (nI q)
    have hdl : d' < 100 := by omega
    rw [hb, d7, d5, ← hdd, ep]
    simp only [pk_mul]
    by_cases hz : d' = 0
    · subst hz
      rw [if_pos rfl, Nat.zero_mul, nI_0, if_pos rfl]
      decide
    · rw [if_neg hz]
      have hpp : p ≤ d' * p := Nat.le_mul_of_pos_left p (by omega)
      have hps : d' * p < 1000 := by rcases hp with rfl | rfl <;> omega
      have hp0 : d' * p ≠ 0 := by rcases hp with rfl | rfl <;> omega
      rw [if_neg (nI_ne0 (by omega) (by omega)), pk_sub hpp, Nat.sub_mul, Nat.one_mul]
  have hT : dT1 M (nI q) = sp_td N P A (nI q) := by
    unfold dT1 sp_td
    rw [hq2, many_eq hA h9, hcs, d3, hb]
  have hF : dfn M (nI q) (nI w) = zF1 N P i A (nI q) (nI w) := by
    unfold dfn zF1 sp_fd sp_fv
    rw [hq2, hw2, many_eq hA h9, hT, ht, ← hb, e1, e2, e3, e4, ← HD_k hH es]
    simp (disch := omega) only [sp_1, zr_n, zr_s, hq2, upd_s]
    generalize A (P + 4) q + (if A (P + 3) q = 0 then 2 else 0) - sp_td N P A (nI q) = g
    by_cases q1 : sp_en P A 0 (nI q) (sp_b N P A (nI q)) (sp_e N P A (nI q)) = 0
    all_goals by_cases q2 : A (P + 3) q = 2
    all_goals by_cases q3 : A (P + 2) w < 3
    all_goals by_cases q4 : g < A 1000 (tn (A (P + 1) w))
    all_goals simp only [q1, q2, q3, q4, if_true, if_false, i1_0, i0_0]
    all_goals (try rfl)
  obtain ⟨k1, k2, k3⟩ := h2 w hw
  have hX : (dfi M (nI q) (nI w) = 0) = ¬ zfs N A (nI w) (nI q) (sp_e N P A (nI q)) := by
    unfold dfi zfs
    rw [hw2, ht, k1, k2]
    by_cases q1 : A (N + 1) w = -1
    all_goals by_cases q2 : sp_e N P A (nI q) < A (N + 2) w
    all_goals by_cases q3 : sp_e N P A (nI q) = A (N + 2) w
    all_goals by_cases q4 : nI q < A (N + 1) w
    all_goals simp [q1, q2, q3, q4]
  rw [hF] at g77 g81 g84 g85
  have hpcA : ∀ x, sp_pc P (zds N P i A) x = sp_pc P A x := by
    intro x
    unfold sp_pc
    rw [zP (P + 3) (by omega)]
  refine ⟨fun r hr => ?_, fun k hk => ?_, fun j hj => ?_, fun j hj hj2 => ?_⟩
  · rw [hpcA, zP P (by omega), g83]
    by_cases er : r = q
    · subst er
      refine ⟨d' + 1, by omega, ?_, ?_, ?_, ?_, ?_, ?_, ?_, fun z => (z hover).elim⟩
      · rw [z4, upd_s, hd, ← hdd, na_1]
      · rw [g80, upd_s, d2, ← hdd, na_1]
      · rw [g79, z5, upd_s, upd_s, hT, hp2]
      · rw [g81]
        by_cases q1 : zF1 N P i A (nI r) (nI w) = 0
        · rw [if_pos q1, (zn q1).2.1]; exact d4
        · rw [if_neg q1, (zy q1).2.1, hq2, upd_s, upd_s, d4]
      · rw [g78, upd_s, ht, sp_e, hb, d5, ← hdd]
        obtain ⟨p, hp, ep⟩ := pc_nI P A (nI r)
        rw [ep, pk_mul, pk_mul, nI_add, show (1 : Int32) = nI 1 from rfl, pk_sub (by rcases hp with rfl | rfl <;> omega), nI_add]
        congr 1
        rw [Nat.add_mul, Nat.one_mul]
        rcases hp with rfl | rfl <;> omega
      · rw [g78, z6, upd_s, upd_s, ht]
        exact Int32.add_sub_cancel _ _
      · rw [g82, upd_s, if_neg (by omega), d5, ← hdd]
        rfl
    · rw [g80, g79, g78, g82, z4, z5, z6]
      simp only [upd_n er]
      have e81 : M' 81 r = M 81 r ∧ zds N P i A (N + 7) r = A (N + 7) r := by
        rw [g81]
        by_cases q1 : zF1 N P i A (nI q) (nI w) = 0
        · rw [if_pos q1, (zn q1).2.1]; exact ⟨rfl, rfl⟩
        · rw [if_neg q1, (zy q1).2.1, hq2, upd_n er, upd_n er]; exact ⟨rfl, rfl⟩
      rw [e81.1, e81.2]
      obtain ⟨f, f0, f1⟩ := h1 r hr
      exact ⟨f, by omega, f1⟩
  · obtain ⟨m1, m2, m3⟩ := h2 k hk
    have e86 : M' 86 k = zds N P i A (N + 3) k := by
      rw [g86, z3]
      by_cases ek : k = w
      · subst ek; rw [upd_s, upd_s, m3]
      · rw [upd_n ek, upd_n ek, m3]
    refine ⟨?_, ?_, e86⟩
    · rw [g84]
      by_cases q1 : zF1 N P i A (nI q) (nI w) = 0
      · rw [if_pos q1, (zn q1).2.2.1]; exact m1
      · rw [if_neg q1]
        by_cases q2 : zfs N A (nI w) (nI q) (sp_e N P A (nI q))
        · have q3 : ¬ dfi M (nI q) (nI w) = 0 := by rw [hX]; exact fun z => z q2
          rw [if_neg q3, (((zy q1).2.2.1) q2).1, hw2]
          by_cases ek : k = w
          · subst ek; rw [upd_s, upd_s]
          · rw [upd_n ek, upd_n ek, m1]
        · have q3 : dfi M (nI q) (nI w) = 0 := by rw [hX]; exact q2
          rw [if_pos q3, (((zy q1).2.2.2) q2).1, upd_id]
          exact m1
    · rw [g85]
      by_cases q1 : zF1 N P i A (nI q) (nI w) = 0
      · rw [if_pos q1, (zn q1).2.2.2]; exact m2
      · rw [if_neg q1]
        by_cases q2 : zfs N A (nI w) (nI q) (sp_e N P A (nI q))
        · have q3 : ¬ dfi M (nI q) (nI w) = 0 := by rw [hX]; exact fun z => z q2
          rw [if_neg q3, (((zy q1).2.2.1) q2).2, hw2, ht]
          by_cases ek : k = w
          · subst ek; rw [upd_s, upd_s]
          · rw [upd_n ek, upd_n ek, m2]
        · have q3 : dfi M (nI q) (nI w) = 0 := by rw [hX]; exact q2
          rw [if_pos q3, (((zy q1).2.2.2) q2).2, upd_id]
          exact m2
  · rw [g76, g77, z8]
    by_cases ej : j = i
    · subst ej
      rw [upd_s, upd_s, upd_s, hb]
      refine ⟨rfl, ?_⟩
      by_cases q1 : zF1 N P j A (nI q) (nI w) = 0
      · rw [q1, (zn q1).1]; exact (h4 j (Nat.le_refl _) hi).2.symm
      · rw [(zy q1).1, upd_s]
        unfold zF1 at q1 ⊢
        split at q1
        · exact absurd rfl q1
        · rename_i s1
          rw [if_neg s1]
          split at q1
          · rename_i s2
            rw [if_pos s2]
          · exact absurd rfl q1
    · rw [upd_n ej, upd_n ej, upd_n ej, (h3 j (by omega)).1, (h3 j (by omega)).2]
      refine ⟨rfl, ?_⟩
      by_cases q1 : zF1 N P i A (nI q) (nI w) = 0
      · rw [(zn q1).1]
      · rw [(zy q1).1, upd_n ej]
  · have ej : j ≠ i := by omega
    rw [z8, upd_n ej]
    refine ⟨(h4 j (by omega) hj2).1, ?_⟩
    by_cases q1 : zF1 N P i A (nI q) (nI w) = 0
    · rw [(zn q1).1]; exact (h4 j (by omega) hj2).2
    · rw [(zy q1).1, upd_n ej]; exact (h4 j (by omega) hj2).2
theorem NR_does (hN : P + 9 < N) (hN2 : N < 900) (hPk : Pk P A) (hi : i < tn (A P 6)) (hA : PAg P A M) (hH : HD A) (hR : NR N P i A M) : ∃ M' : zI, (∀ Q : zQ, Rn (zG xl) 139 0 [.ref 65, .int (nI i), .null, .null, .null, .null, .null, .null, .null, .null] [] M J Q = Q none M' J) ∧ NR N P (i + 1) (zsh N P i A) M' ∧ ∀ c, c < 76 ∨ 86 < c → M' c = M c := by
  obtain ⟨p0, p3, p6, p9, p5, p1⟩ := hPk
  have hi17 : i < 17 := by
    have := ixN_tn p6 (by decide)
    omega
  obtain ⟨nl, hnl, el⟩ := (ixN_iff (by decide)).mp p0
  obtain ⟨nr, hnr, er⟩ := (ixN_iff (by decide)).mp p3
  obtain ⟨hr6, hk10⟩ := p5 i hi
  have hr6' := hr6
  have hk10' := hk10
  obtain ⟨q, hq, eq⟩ := (ixN_iff (by decide)).mp hr6
  obtain ⟨w, hw, ew⟩ := (ixN_iff (by decide)).mp hk10
  have hA0 := hA
  obtain ⟨⟨a0, a3, a6, a14, a9, a13⟩, aL, aR, aS, aE⟩ := hA
  obtain ⟨s1, s2⟩ := aS i hi
  rw [eq] at s1 hr6'
  rw [ew] at s2 hk10'
  have hq2 : tn (nI q) = q := nI_clamp (by omega)
  have hw2 : tn (nI w) = w := nI_clamp (by omega)
  have b1 : (bt (nI q) 0 (M 65 9 - 1) = 0) = ¬ nI q < nI nr := by rw [a3, er]; exact bt_in hr6' (by decide) (by omega)
  have b2 : (bt (nI w) 0 (M 65 7 - 1) = 0) = ¬ nI w < nI nl := by rw [a0, el]; exact bt_in hk10' (by decide) (by omega)
  have skip : ∀ (A' : zI), A' = A → (bt (nI q) 0 (M 65 9 - 1) = 0 ∨ bt (nI w) 0 (M 65 7 - 1) = 0 ∨ (ixN (nI q) 6 ∧ ¬ M 83 (tn (nI q)) = 0)) → ∃ M' : zI, (∀ Q : zQ, Rn (zG xl) 139 0 [.ref 65, .int (nI i), .null, .null, .null, .null, .null, .null, .null, .null] [] M J Q = Q none M' J) ∧ NR N P (i + 1) A' M' ∧ ∀ c, c < 76 ∨ 86 < c → M' c = M c := by
    intro A' eA hc
    subst eA
    refine ⟨zd0 i M, fun Q => m_does_a hi17 s1 s2 hc, NR_skip hi17 hR zd0_a zd0_b (fun c c1 c2 c3 => zd0_n (by omega) (by omega)) (fun r hr z => Or.inl ?_), fun c hc => zd0_n (by omega) (by omega)⟩
    rw [zd0_n (by decide) (by decide)] at z
    exact z
  by_cases c1 : nI q < nI nr
  · by_cases c2 : nI w < nI nl
    · have hqn : q < nr := (nI_ltI (by omega) (by omega)).mp c1
      have hwn : w < nl := (nI_ltI (by omega) (by omega)).mp c2
      have ez : zsh N P i A = zds N P i A := by
        unfold zsh
        rw [eq, ew, er, el, if_pos c1, if_pos c2]
      rw [ez]
      obtain ⟨x1, x2⟩ := aR q (by rw [er, tn, nI_clamp (by omega)]; exact hqn)
      obtain ⟨x3, x4⟩ := aL w (by rw [el, tn, nI_clamp (by omega)]; exact hwn)
      have es := p1 w (by rw [el, tn, nI_clamp (by omega)]; exact hwn)
      obtain ⟨d, d0, d1, d2, d3, d4, d5, d6, d7, d8⟩ := hR.1 q hq
      have hse : sp_e N P A (nI q) = nI d * sp_pc P A (nI q) + sp_pc P A (nI q) - 1 := by
        unfold sp_e sp_b
        rw [hq2, d1]
      have hdt : dto M (nI q) = sp_e N P A (nI q) := by
        rw [hse, pc_d P A q hq, dto, hq2, x1, d5]
      have nb1 : ¬ bt (nI q) 0 (M 65 9 - 1) = 0 := by rw [b1]; exact fun z => z c1
      have nb2 : ¬ bt (nI w) 0 (M 65 7 - 1) = 0 := by rw [b2]; exact fun z => z c2
      have ezn : ¬ sp_e N P A (nI q) < A P 14 → zds N P i A = A := by
        intro z
        unfold zds
        rw [eq, if_neg z]
      by_cases ho : M 83 q = 0
      · have ho' : M 83 (tn (nI q)) = 0 := by rw [hq2]; exact ho
        by_cases hl : sp_e N P A (nI q) < A P 14
        · obtain ⟨M', g0, g76, g77, g79, g82, g78, g80, g86, g81, g84, g85, gc⟩ := m_does_c (xl := xl) (J := J) hi17 s1 s2 nb1 nb2 hr6' hk10' ho' (by rw [hdt, a14]; exact hl) (by rw [a9]; exact p9)
          rw [hq2] at g76 g79 g82 g78 g80 g81
          rw [hw2] at g86 g84 g85
          exact ⟨M', g0, NR_done hN hN2 hi17 hq hw hR p9 hH hA0 es eq ew x1 x2 x3 x4 d1 ho hl g76 g77 g79 g82 g78 g80 g86 g81 g84 g85 (gc 83 (by omega)), fun c hc => gc c (by omega)⟩
        · rw [ezn hl]
          refine ⟨zr (zd0 i M) 83 (upd (M 83) (tn (nI q)) 1), fun Q => m_does_b hi17 s1 s2 nb1 nb2 hr6' ho' (by rw [hdt, a14]; exact hl), NR_skip hi17 hR ?_ ?_ (fun c c1 c2 c3 => ?_) (fun r hr z => ?_), fun c hc => ?_⟩
          · rw [zr_n (by decide)]; exact zd0_a
          · rw [zr_n (by decide)]; exact zd0_b
          · rw [zr_n (by omega)]; exact zd0_n (by omega) (by omega)
          · rw [zr_s, hq2] at z
            by_cases er2 : r = q
            · subst er2
              refine Or.inr (fun d' hd' => ?_)
              rw [← hd', d1, ← hse]
              exact hl
            · rw [upd_n er2] at z
              exact Or.inl z
          · rw [zr_n (by omega)]; exact zd0_n (by omega) (by omega)
      · refine skip _ (ezn ?_) (Or.inr (Or.inr ⟨hr6', by rw [hq2]; exact ho⟩))
        rw [hse]
        exact d8 ho
    · exact skip _ (by unfold zsh; rw [eq, ew, er, el, if_pos c1, if_neg c2]) (Or.inr (Or.inl (by rw [b2]; exact c2)))
  · exact skip _ (by unfold zsh; rw [eq, er, if_neg c1]) (Or.inl (by rw [b1]; exact c1))
end
section
variable {xl : Nat} {J : zJ} {N P : Nat} {I M : zI}
theorem zps_k {N P c : Nat} {I : zI} (n : Nat) (h : c < N ∨ N + 9 < c) : fo (zsh N P) n 0 (zfg N (I P 0) I) c = I c :=
  fo_inv (n := 0 + n) (fun _ (A : zI) => A c = I c) (fun k s _ hs => (zsh_f h).trans hs) _ 0 _ rfl (zfg_f h)
theorem m_night (hN : P + 9 < N) (hN2 : N < 900) (hPk : Pk P I) (hA : PAg P I M) (hH : HD I) : ∃ M' : zI, (∀ Q : zQ, Rn (zG xl) 140 0 [.ref 65, .null] [] M J Q = Q none M' J) ∧ NR N P (tn (I P 6)) (zps N P I) M' ∧ ∀ c, c < 76 ∨ 86 < c → M' c = M c := by
  have h17 : tn (I P 6) ≤ 17 := by
    have := ixN_tn hPk.2.2.1 (by decide)
    omega
  have e6 : M 65 11 = nI (tn (I P 6)) := by
    rw [hA.1.2.2.1]
    obtain ⟨n, hn, e⟩ := (ixN_iff (by decide)).mp hPk.2.2.1
    rw [e, tn, nI_clamp (by omega)]
  have hIr : ∀ (k c : Nat), P ≤ c → c ≤ P + 9 → fo (zsh N P) k 0 (zfg N (I P 0) I) c = I c := fun k c c1 c2 => zps_k k (by omega)
  obtain ⟨M', g0, g1, g2⟩ := m_lives (xl := xl) (I := M) (J := J) (n := tn (I P 6)) (fun k M' => NR N P k (fo (zsh N P) k 0 (zfg N (I P 0) I)) M' ∧ ∀ c, c < 76 ∨ 86 < c → M' c = M c) h17 (fun k M' hM => by rw [hM.2 65 (by omega)]; exact e6) (fun M' hM => ⟨NR_0 hN hM, fun c hc => hM.2.2.2.2.2.2.2.2.2 c (by omega)⟩) (fun k M' hk hM => by
    obtain ⟨hR, hc⟩ := hM
    obtain ⟨M2, d0, d1, d2⟩ := NR_does (xl := xl) (J := J) hN hN2 (Pk_f (hIr k) hPk) (by rw [hIr k P (by omega) (by omega)]; exact hk) (PAg_f (hIr k) (fun c h => hc c (by omega)) hA) (by unfold HD; rw [zps_k k (by omega)]; exact hH) hR
    refine ⟨M2, d0, ?_, fun c h => (d2 c h).trans (hc c h)⟩
    rw [fo_snoc, Nat.zero_add]
    exact d1)
  exact ⟨M', g0, g1, g2⟩
end

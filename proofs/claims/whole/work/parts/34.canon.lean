/-! ===== plans that say the same have the same night ===== -/
def Ag (P : Nat) (I : zI) (P' : Nat) (I' : zI) : Prop := (I' P' 0 = I P 0 ∧ I' P' 3 = I P 3 ∧ I' P' 6 = I P 6 ∧ I' P' 9 = I P 9 ∧ I' P' 13 = I P 13 ∧ I' P' 14 = I P 14) ∧ (∀ k, k < tn (I P 0) → I' (P' + 1) k = I (P + 1) k ∧ I' (P' + 2) k = I (P + 2) k) ∧ (∀ r, r < tn (I P 3) → I' (P' + 3) r = I (P + 3) r ∧ I' (P' + 4) r = I (P + 4) r) ∧ (∀ i, i < tn (I P 6) → I' (P' + 5) i = I (P + 5) i ∧ I' (P' + 6) i = I (P + 6) i) ∧ (∀ e, e < tn (I P 9) → I' (P' + 7) e = I (P + 7) e ∧ I' (P' + 8) e = I (P + 8) e ∧ I' (P' + 9) e = I (P + 9) e)
theorem Ag_refl (P : Nat) (I : zI) : Ag P I P I := ⟨⟨rfl, rfl, rfl, rfl, rfl, rfl⟩, fun _ _ => ⟨rfl, rfl⟩, fun _ _ => ⟨rfl, rfl⟩, fun _ _ => ⟨rfl, rfl⟩, fun _ _ => ⟨rfl, rfl, rfl⟩⟩
theorem Ag_sym {P P' : Nat} {I I' : zI} (h : Ag P I P' I') : Ag P' I' P I := by
  obtain ⟨⟨h0, h3, h6, h9, h13, h14⟩, hL, hR, hS, hE⟩ := h
  refine ⟨⟨h0.symm, h3.symm, h6.symm, h9.symm, h13.symm, h14.symm⟩, fun k hk => ?_, fun k hk => ?_, fun k hk => ?_, fun k hk => ?_⟩
  · rw [h0] at hk; exact ⟨(hL k hk).1.symm, (hL k hk).2.symm⟩
  · rw [h3] at hk; exact ⟨(hR k hk).1.symm, (hR k hk).2.symm⟩
  · rw [h6] at hk; exact ⟨(hS k hk).1.symm, (hS k hk).2.symm⟩
  · rw [h9] at hk; exact ⟨(hE k hk).1.symm, (hE k hk).2.1.symm, (hE k hk).2.2.symm⟩
theorem Ag_trans {P P' P'' : Nat} {I I' I'' : zI} (h : Ag P I P' I') (g : Ag P' I' P'' I'') : Ag P I P'' I'' := by
  obtain ⟨⟨h0, h3, h6, h9, h13, h14⟩, hL, hR, hS, hE⟩ := h
  obtain ⟨⟨g0, g3, g6, g9, g13, g14⟩, gL, gR, gS, gE⟩ := g
  rw [h0] at gL; rw [h3] at gR; rw [h6] at gS; rw [h9] at gE
  exact ⟨⟨g0.trans h0, g3.trans h3, g6.trans h6, g9.trans h9, g13.trans h13, g14.trans h14⟩, fun k hk => ⟨(gL k hk).1.trans (hL k hk).1, (gL k hk).2.trans (hL k hk).2⟩, fun k hk => ⟨(gR k hk).1.trans (hR k hk).1, (gR k hk).2.trans (hR k hk).2⟩, fun k hk => ⟨(gS k hk).1.trans (hS k hk).1, (gS k hk).2.trans (hS k hk).2⟩, fun k hk => ⟨(gE k hk).1.trans (hE k hk).1, (gE k hk).2.1.trans (hE k hk).2.1, (gE k hk).2.2.trans (hE k hk).2.2⟩⟩
theorem Ag_PAg {P P' : Nat} {I I' M : zI} (h : Ag P I P' I') (g : PAg P I M) : PAg P' I' M := by
  obtain ⟨⟨h0, h3, h6, h9, h13, h14⟩, hL, hR, hS, hE⟩ := h
  obtain ⟨⟨g0, g3, g6, g14, g9, g13⟩, gL, gR, gS, gE⟩ := g
  refine ⟨⟨g0.trans h0.symm, g3.trans h3.symm, g6.trans h6.symm, g14.trans h14.symm, g9.trans h9.symm, g13.trans h13.symm⟩, fun k hk => ?_, fun k hk => ?_, fun k hk => ?_, fun k hk => ?_⟩
  · rw [h0] at hk; exact ⟨(gL k hk).1.trans (hL k hk).1.symm, (gL k hk).2.trans (hL k hk).2.symm⟩
  · rw [h3] at hk; exact ⟨(gR k hk).1.trans (hR k hk).1.symm, (gR k hk).2.trans (hR k hk).2.symm⟩
  · rw [h6] at hk; exact ⟨(gS k hk).1.trans (hS k hk).1.symm, (gS k hk).2.trans (hS k hk).2.symm⟩
  · rw [h9] at hk; exact ⟨(gE k hk).1.trans (hE k hk).1.symm, (gE k hk).2.1.trans (hE k hk).2.1.symm, (gE k hk).2.2.trans (hE k hk).2.2.symm⟩
theorem Ag_Pk {P P' : Nat} {I I' : zI} (h : Ag P I P' I') (g : Pk P I) : Pk P' I' := by
  obtain ⟨⟨h0, h3, h6, h9, h13, h14⟩, hL, hR, hS, hE⟩ := h
  obtain ⟨g0, g3, g6, g9, gS, gL⟩ := g
  unfold Pk
  rw [h0, h3, h6, h9]
  refine ⟨g0, g3, g6, g9, fun i hi => ?_, fun k hk => ?_⟩
  · rw [(hS i hi).1, (hS i hi).2]; exact gS i hi
  · rw [(hL k hk).1]; exact gL k hk
def mkM (P : Nat) (I : zI) : zI := fun c j => if c = 65 then (if j = 7 then I P 0 else if j = 9 then I P 3 else if j = 11 then I P 6 else if j = 13 then I P 14 else if j = 14 then I P 9 else I P 13) else if c = 72 then I (P + 1 + j % 2) (j / 2) else if c = 73 then I (P + 3 + j % 2) (j / 2) else if c = 74 then I (P + 5 + j % 2) (j / 2) else I (P + 7 + j % 3) (j / 3)
theorem mkM_ag (P : Nat) (I : zI) : PAg P I (mkM P I) := by
  refine ⟨⟨rfl, rfl, rfl, rfl, rfl, rfl⟩, fun k hk => ⟨?_, ?_⟩, fun k hk => ⟨?_, ?_⟩, fun k hk => ⟨?_, ?_⟩, fun k hk => ⟨?_, ?_, ?_⟩⟩
  · show I (P + 1 + (2 * k) % 2) (2 * k / 2) = _
    rw [show (2 * k) % 2 = 0 by omega, show 2 * k / 2 = k by omega]
  · show I (P + 1 + (2 * k + 1) % 2) ((2 * k + 1) / 2) = _
    rw [show (2 * k + 1) % 2 = 1 by omega, show (2 * k + 1) / 2 = k by omega]
  · show I (P + 3 + (2 * k) % 2) (2 * k / 2) = _
    rw [show (2 * k) % 2 = 0 by omega, show 2 * k / 2 = k by omega]
  · show I (P + 3 + (2 * k + 1) % 2) ((2 * k + 1) / 2) = _
    rw [show (2 * k + 1) % 2 = 1 by omega, show (2 * k + 1) / 2 = k by omega]
  · show I (P + 5 + (2 * k) % 2) (2 * k / 2) = _
    rw [show (2 * k) % 2 = 0 by omega, show 2 * k / 2 = k by omega]
  · show I (P + 5 + (2 * k + 1) % 2) ((2 * k + 1) / 2) = _
    rw [show (2 * k + 1) % 2 = 1 by omega, show (2 * k + 1) / 2 = k by omega]
  · show I (P + 7 + (3 * k) % 3) (3 * k / 3) = _
    rw [show (3 * k) % 3 = 0 by omega, show 3 * k / 3 = k by omega]
  · show I (P + 7 + (3 * k + 1) % 3) ((3 * k + 1) / 3) = _
    rw [show (3 * k + 1) % 3 = 1 by omega, show (3 * k + 1) / 3 = k by omega]
  · show I (P + 7 + (3 * k + 2) % 3) ((3 * k + 2) / 3) = _
    rw [show (3 * k + 2) % 3 = 2 by omega, show (3 * k + 2) / 3 = k by omega]
/-- the same night -/
def NEq (n N : Nat) (A : zI) (N' : Nat) (A' : zI) : Prop := (∀ k, k < 10 → A' (N' + 1) k = A (N + 1) k ∧ A' (N' + 2) k = A (N + 2) k ∧ A' (N' + 3) k = A (N + 3) k) ∧ (∀ r, r < 6 → A' (N' + 4) r = A (N + 4) r ∧ A' (N' + 5) r = A (N + 5) r ∧ A' (N' + 6) r = A (N + 6) r ∧ A' (N' + 7) r = A (N + 7) r) ∧ (∀ j, j < n → A' (N' + 8) j = A (N + 8) j ∧ A' (N' + 9) j = A (N + 9) j)
theorem NR_NEq {n N P N' P' : Nat} {A A' M : zI} (h : NR N P n A M) (g : NR N' P' n A' M) : NEq n N A N' A' := by
  obtain ⟨h1, h2, h3, -⟩ := h
  obtain ⟨g1, g2, g3, -⟩ := g
  refine ⟨fun k hk => ?_, fun r hr => ?_, fun j hj => ?_⟩
  · exact ⟨(g2 k hk).1.symm.trans (h2 k hk).1, (g2 k hk).2.1.symm.trans (h2 k hk).2.1, (g2 k hk).2.2.symm.trans (h2 k hk).2.2⟩
  · obtain ⟨d, d0, d1, d2, d3, d4, d5, d6, d7, d8⟩ := h1 r hr
    obtain ⟨f, f0, f1, f2, f3, f4, f5, f6, f7, f8⟩ := g1 r hr
    exact ⟨f1.trans (f2.symm.trans (d2.trans d1.symm)), f3.symm.trans d3, f6.symm.trans d6, f4.symm.trans d4⟩
  · exact ⟨(g3 j hj).1.symm.trans (h3 j hj).1, (g3 j hj).2.symm.trans (h3 j hj).2⟩
theorem zps_ag {N P N' P' : Nat} {I I' : zI} (hN : P + 9 < N) (hN2 : N < 900) (hN' : P' + 9 < N') (hN2' : N' < 900) (hp : Pk P I) (hH : HD I) (hH' : HD I') (h : Ag P I P' I') : NEq (tn (I P 6)) N (zps N P I) N' (zps N' P' I') := by
  obtain ⟨M1, a1, a2, -⟩ := m_night (xl := 0) (J := fun _ _ => 0) hN hN2 hp (mkM_ag P I) hH
  obtain ⟨M2, b1, b2, -⟩ := m_night (xl := 0) (J := fun _ _ => 0) hN' hN2' (Ag_Pk h hp) (Ag_PAg h (mkM_ag P I)) hH'
  have e : M2 = M1 := by
    have e1 := a1 (fun _ X _ => X = M1)
    have e2 := b1 (fun _ X _ => X = M1)
    rw [e1] at e2
    exact e2.mp rfl
  subst e
  rw [h.1.2.2.1] at b2
  exact NR_NEq a2 b2
/-- the class's own plan, laid where a trial lies -/
def pD (I : zI) : zI := fun c => if c < 28 then fun _ => 0 else if c < 38 then I (c - 20) else if c = 1000 then I 1000 else fun _ => 0
theorem pD_ag (I : zI) : Ag 8 I 28 (pD I) := Ag_refl 8 I
theorem pD_hd {I : zI} (h : HD I) : HD (pD I) := h
theorem pD_f {I I' : zI} (h : ∀ c, 8 ≤ c → c < 18 → I' c = I c) (h2 : I' 1000 = I 1000) : pD I' = pD I := by
  funext c
  unfold pD
  by_cases h1 : c < 28
  · rw [if_pos h1, if_pos h1]
  · rw [if_neg h1, if_neg h1]
    by_cases h3 : c < 38
    · rw [if_pos h3, if_pos h3, h (c - 20) (by omega) (by omega)]
    · rw [if_neg h3, if_neg h3, h2]
def Nt (D : zI) : zI := zps 38 28 D
/-- the reference's night beside the canonical one -/
def NE (n : Nat) (A M : zI) : Prop := (∀ k, k < 10 → M 84 k = A 39 k ∧ M 85 k = A 40 k ∧ M 86 k = A 41 k) ∧ (∀ r, r < 6 → M 80 r = A 42 r ∧ M 79 r = A 43 r ∧ M 78 r - 1 = A 44 r ∧ M 81 r = A 45 r) ∧ (∀ j, j < n → M 76 j = A 46 j ∧ M 77 j = A 47 j)
theorem NR_NE {n : Nat} {A M : zI} (h : NR 38 28 n A M) : NE n A M := by
  obtain ⟨h1, h2, h3, -⟩ := h
  refine ⟨h2, fun r hr => ?_, h3⟩
  obtain ⟨d, d0, d1, d2, d3, d4, d5, d6, d7, d8⟩ := h1 r hr
  exact ⟨d2.trans d1.symm, d3, d6, d4⟩
/-- the reference holds the plan D -/
def MD (D M : zI) : Prop := Pk 28 D ∧ HD D ∧ PAg 28 D M
/-- .. and its night -/
def MN (D M : zI) : Prop := MD D M ∧ NE (tn (D 28 6)) (Nt D) M
theorem m_livesD {xl : Nat} {J : zJ} {D M : zI} (h : MD D M) : ∃ M' : zI, (∀ Q : zQ, Rn (zG xl) 140 0 [.ref 65, .null] [] M J Q = Q none M' J) ∧ MN D M' ∧ ∀ c, c < 76 ∨ 86 < c → M' c = M c := by
  obtain ⟨h1, h2, h3⟩ := h
  obtain ⟨M', g1, g2, g3⟩ := m_night (xl := xl) (J := J) (N := 38) (P := 28) (by decide) (by decide) h1 h3 h2
  exact ⟨M', g1, ⟨⟨h1, h2, PAg_f (fun _ _ _ => rfl) (fun c hc => g3 c (by omega)) h3⟩, NR_NE g2⟩, g3⟩
theorem zds_N {N P i : Nat} {M : zI} : zds N P i M N = M N := by
  unfold zds
  split
  · unfold sp_3
    simp (disch := omega) only [zr_n]
    unfold sp_2
    split
    · unfold sp_1
      simp (disch := omega) only [zr_n]
    · split
      · unfold sp_ct sp_1
        split <;> simp (disch := omega) only [zr_n]
      · unfold sp_1
        simp (disch := omega) only [zr_n]
  · rfl
theorem zps_N {N P : Nat} {I : zI} : zps N P I N 0 = I P 0 := by
  unfold zps
  refine fo_inv (n := 0 + tn (I P 6)) (fun _ (M : zI) => M N 0 = I P 0) (fun k s _ hs => ?_) _ 0 _ rfl ?_
  · unfold zsh
    split
    · split
      · rw [zds_N]; exact hs
      · exact hs
    · exact hs
  · unfold zfg
    simp (disch := omega) only [zr_n, zr_s, upd_s]
/-- the class's plan P holds D; its night N is that of D -/
def CD (P : Nat) (X D : zI) : Prop := Ag 28 D P X ∧ Pk 28 D ∧ HD D ∧ HD X
def CN (N P : Nat) (X D : zI) : Prop := CD P X D ∧ X N 0 = D 28 0 ∧ NEq (tn (D 28 6)) 38 (Nt D) N X
theorem CN_pass {N P : Nat} {X D : zI} (hN : P + 9 < N) (hN2 : N < 900) (h : CD P X D) : CN N P (zps N P X) D := by
  obtain ⟨h1, h2, h3, h4⟩ := h
  have e : ∀ c, P ≤ c → c ≤ P + 9 → zps N P X c = X c := fun c c1 c2 => zps_f (by omega)
  refine ⟨⟨?_, h2, h3, ?_⟩, ?_, zps_ag (by decide) (by decide) hN hN2 h2 h3 h4 h1⟩
  · unfold Ag
    rw [e P (by omega) (by omega), e (P + 1) (by omega) (by omega), e (P + 2) (by omega) (by omega), e (P + 3) (by omega) (by omega), e (P + 4) (by omega) (by omega), e (P + 5) (by omega) (by omega), e (P + 6) (by omega) (by omega), e (P + 7) (by omega) (by omega), e (P + 8) (by omega) (by omega), e (P + 9) (by omega) (by omega)]
    exact h1
  · unfold HD
    rw [zps_f (by omega)]
    exact h4
  · rw [zps_N]
    exact h1.1.1
/-- what a night comes to -/
def hD (D : zI) : Int32 := sp_hm (Nt D 39) (D 30) (tn (D 28 0))
def mkD (D : zI) (m : Int32) : Int32 := sp_mk (Nt D 39) (Nt D 40) (tn (D 28 0)) m
def urD (D : zI) : Int32 := sp_ur (Nt D 41) (tn (D 28 0))
def pdD (D : zI) : Int32 := sp_pd (Nt D 41) (Nt D 39) (tn (D 28 0))
theorem sp_hm_c {f f' g g' : Nat → Int32} {n : Nat} (h : ∀ k, k < n → f' k = f k ∧ g' k = g k) : sp_hm f' g' n = sp_hm f g n := by
  unfold sp_hm
  refine fo_congr (n := n) (fun k s hk => ?_) _ 0 _ (Nat.zero_add _)
  rw [(h k hk).1, (h k hk).2]
theorem sp_mk_c {f f' g g' : Nat → Int32} {n : Nat} {m : Int32} (h : ∀ k, k < n → f' k = f k ∧ g' k = g k) : sp_mk f' g' n m = sp_mk f g n m := by
  unfold sp_mk
  refine fo_congr (n := n) (fun k s hk => ?_) _ 0 _ (Nat.zero_add _)
  unfold sp_mb
  rw [(h k hk).1, (h k hk).2]
theorem sp_ur_c {f f' : Nat → Int32} {n : Nat} (h : ∀ k, k < n → f' k = f k) : sp_ur f' n = sp_ur f n := by
  unfold sp_ur
  refine fo_congr (n := n) (fun k s hk => ?_) _ 0 _ (Nat.zero_add _)
  rw [h k hk]
theorem sp_pd_c {f f' g g' : Nat → Int32} {n : Nat} (h : ∀ k, k < n → f' k = f k ∧ g' k = g k) : sp_pd f' g' n = sp_pd f g n := by
  unfold sp_pd
  refine fo_congr (n := n) (fun k s hk => ?_) _ 0 _ (Nat.zero_add _)
  rw [(h k hk).1, (h k hk).2]
theorem Pk_l {P : Nat} {D : zI} (h : Pk P D) : tn (D P 0) ≤ 10 ∧ D P 0 = nI (tn (D P 0)) ∧ tn (D P 3) ≤ 6 ∧ D P 3 = nI (tn (D P 3)) ∧ tn (D P 6) ≤ 17 ∧ D P 6 = nI (tn (D P 6)) ∧ tn (D P 9) ≤ 8 ∧ D P 9 = nI (tn (D P 9)) := by
  obtain ⟨h0, h3, h6, h9, -⟩ := h
  obtain ⟨a, ha, ea⟩ := (ixN_iff (by decide)).mp h0
  obtain ⟨b, hb, eb⟩ := (ixN_iff (by decide)).mp h3
  obtain ⟨c, hc, ec⟩ := (ixN_iff (by decide)).mp h6
  obtain ⟨d, hd, ed⟩ := (ixN_iff (by decide)).mp h9
  have ta : tn (nI a) = a := nI_clamp (by omega)
  have tb : tn (nI b) = b := nI_clamp (by omega)
  have tc : tn (nI c) = c := nI_clamp (by omega)
  have td : tn (nI d) = d := nI_clamp (by omega)
  rw [ea, eb, ec, ed, ta, tb, tc, td]
  exact ⟨by omega, rfl, by omega, rfl, by omega, rfl, by omega, rfl⟩
section
variable {xl : Nat} {J : zJ} {Q : zQ} {X D : zI}
theorem d_pass_18 (h : CD 8 X D) : Rn (zG xl) 1 0 [.ref 18, .ref 8, .null, .null] [] X J Q = Q none (zps 18 8 X) J := c_pass_18 (Ag_Pk h.1 h.2.1)
theorem d_ix_18 (h : CN 18 8 X D) : ixN (X 18 0) 11 := by rw [h.2.1]; exact h.1.2.1.1
theorem d_harmOf_18 (h : CN 18 8 X D) : Rn (zG xl) 8 0 [.ref 18, .ref 8, .null, .null] [] X J Q = Q (some (.int (hD D))) X J := by
  have hl := (Pk_l h.1.2.1).1
  rw [c_harmOf_18 (d_ix_18 h), h.2.1, hD, sp_hm_c (fun k hk => ⟨(h.2.2.1 k (by omega)).1, (h.1.1.2.1 k hk).2⟩)]
theorem d_markedBy_18 {m : Int32} (h : CN 18 8 X D) : Rn (zG xl) 7 0 [.ref 18, .int m, .null, .null] [] X J Q = Q (some (.int (mkD D m))) X J := by
  have hl := (Pk_l h.1.2.1).1
  rw [c_markedBy_18 (d_ix_18 h), h.2.1, mkD, sp_mk_c (fun k hk => ⟨(h.2.2.1 k (by omega)).1, (h.2.2.1 k (by omega)).2.1⟩)]
theorem d_unread_18 (h : CN 18 8 X D) : Rn (zG xl) 9 0 [.ref 18, .null, .null] [] X J Q = Q (some (.int (urD D))) X J := by
  have hl := (Pk_l h.1.2.1).1
  rw [c_unread_18 (d_ix_18 h), h.2.1, urD, sp_ur_c (fun k hk => (h.2.2.1 k (by omega)).2.2)]
theorem d_passed_18 (h : CN 18 8 X D) : Rn (zG xl) 10 0 [.ref 18, .null, .null] [] X J Q = Q (some (.int (pdD D))) X J := by
  have hl := (Pk_l h.1.2.1).1
  rw [c_passed_18 (d_ix_18 h), h.2.1, pdD, sp_pd_c (fun k hk => ⟨(h.2.2.1 k (by omega)).2.2, (h.2.2.1 k (by omega)).1⟩)]
theorem d_pass_38 (h : CD 28 X D) : Rn (zG xl) 1 0 [.ref 38, .ref 28, .null, .null] [] X J Q = Q none (zps 38 28 X) J := c_pass_38 (Ag_Pk h.1 h.2.1)
theorem d_ix_38 (h : CN 38 28 X D) : ixN (X 38 0) 11 := by rw [h.2.1]; exact h.1.2.1.1
theorem d_harmOf_38 (h : CN 38 28 X D) : Rn (zG xl) 8 0 [.ref 38, .ref 28, .null, .null] [] X J Q = Q (some (.int (hD D))) X J := by
  have hl := (Pk_l h.1.2.1).1
  rw [c_harmOf_38 (d_ix_38 h), h.2.1, hD, sp_hm_c (fun k hk => ⟨(h.2.2.1 k (by omega)).1, (h.1.1.2.1 k hk).2⟩)]
theorem d_markedBy_38 {m : Int32} (h : CN 38 28 X D) : Rn (zG xl) 7 0 [.ref 38, .int m, .null, .null] [] X J Q = Q (some (.int (mkD D m))) X J := by
  have hl := (Pk_l h.1.2.1).1
  rw [c_markedBy_38 (d_ix_38 h), h.2.1, mkD, sp_mk_c (fun k hk => ⟨(h.2.2.1 k (by omega)).1, (h.2.2.1 k (by omega)).2.1⟩)]
theorem d_unread_38 (h : CN 38 28 X D) : Rn (zG xl) 9 0 [.ref 38, .null, .null] [] X J Q = Q (some (.int (urD D))) X J := by
  have hl := (Pk_l h.1.2.1).1
  rw [c_unread_38 (d_ix_38 h), h.2.1, urD, sp_ur_c (fun k hk => (h.2.2.1 k (by omega)).2.2)]
theorem d_passed_38 (h : CN 38 28 X D) : Rn (zG xl) 10 0 [.ref 38, .null, .null] [] X J Q = Q (some (.int (pdD D))) X J := by
  have hl := (Pk_l h.1.2.1).1
  rw [c_passed_38 (d_ix_38 h), h.2.1, pdD, sp_pd_c (fun k hk => ⟨(h.2.2.1 k (by omega)).2.2, (h.2.2.1 k (by omega)).1⟩)]
end

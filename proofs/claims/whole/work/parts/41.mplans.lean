/-! ===== the reference: limits, shifts, places, events tried ===== -/
theorem lpV {σ τ : Type} {R : Nat → σ → τ → zI → zQ → Prop} {E : σ → τ → zI → zQ → Prop} {f : Nat → σ → σ} {n : Nat} {P : Nat → σ → zI → Prop} {P' : σ → zI → Prop}
    (hs : ∀ k s v X, k < n → P k s X → ∃ v' X', (∀ Q, R k s v X Q = R (k + 1) (f k s) v' X' Q) ∧ P (k + 1) (f k s) X')
    (he : ∀ s v X, P n s X → ∃ v' X', (∀ Q, R n s v X Q = E s v' X' Q) ∧ P' s X') : ∀ (d k : Nat) (s : σ) (v : τ) (X : zI), k + d = n → P k s X → ∃ v' X', (∀ Q, R k s v X Q = E (fo f d k s) v' X' Q) ∧ P' (fo f d k s) X' := by
  intro d
  induction d with
  | zero =>
    intro k s v X h hp
    have h : k = n := h
    subst h
    exact he s v X hp
  | succ d ih =>
    intro k s v X h hp
    obtain ⟨v1, X1, e1, p1⟩ := hs k s v X (by omega) hp
    obtain ⟨v2, X2, e2, p2⟩ := ih (k + 1) (f k s) v1 X1 (by omega) p1
    exact ⟨v2, X2, fun Q => (e1 Q).trans (e2 Q), p2⟩
def Fr (M M' : zI) : Prop := (∀ c, c < 65 ∨ (66 ≤ c ∧ c ≤ 71) ∨ c = 75 ∨ c = 87 ∨ 88 < c → M' c = M c) ∧ M' 65 4 = M 65 4 ∧ M' 65 28 = M 65 28
theorem Fr_refl (M : zI) : Fr M M := ⟨fun _ _ => rfl, rfl, rfl⟩
theorem Fr_trans {M M' M'' : zI} (h : Fr M M') (g : Fr M' M'') : Fr M M'' := ⟨fun c hc => (g.1 c hc).trans (h.1 c hc), g.2.1.trans h.2.1, g.2.2.trans h.2.2⟩
theorem Fr_lives {M0 M M' : zI} (h : ∀ c, c < 76 ∨ 86 < c → M' c = M c) (g : Fr M0 M) : Fr M0 M' := Fr_trans g ⟨fun c hc => h c (by omega), by rw [h 65 (by omega)], by rw [h 65 (by omega)]⟩
theorem Fr_zr {M0 M : zI} {c : Nat} {f : Nat → Int32} (hc : 72 ≤ c ∧ c ≤ 88 ∧ c ≠ 75 ∧ c ≠ 87) (g : Fr M0 M) : Fr M0 (zr M c f) := Fr_trans g ⟨fun d hd => zr_n (by omega), by rw [zr_n (by omega)], by rw [zr_n (by omega)]⟩
theorem Fr_65 {M0 M : zI} {j : Nat} {v : Int32} (hj : j ≠ 4 ∧ j ≠ 28) (g : Fr M0 M) : Fr M0 (zr M 65 (upd (M 65) j v)) := Fr_trans g ⟨fun d hd => zr_n (by omega), by rw [zr_s, upd_n (by omega)], by rw [zr_s, upd_n (by omega)]⟩
theorem MD_f {D M M' : zI} (h65 : M' 65 = M 65) (h72 : M' 72 = M 72) (h73 : M' 73 = M 73) (h74 : M' 74 = M 74) (h75 : M' 75 = M 75) (h : MD D M) : MD D M' := by
  unfold MD PAg
  rw [h65, h72, h73, h74, h75]
  exact h
theorem MD_lives {D M M' : zI} (h : ∀ c, c < 76 ∨ 86 < c → M' c = M c) (g : MD D M) : MD D M' := MD_f (h 65 (by omega)) (h 72 (by omega)) (h 73 (by omega)) (h 74 (by omega)) (h 75 (by omega)) g
theorem MD_dl {D M : zI} {v : Int32} (h : MD D M) : MD (dl D v) (zr M 65 (upd (M 65) 13 v)) := by
  obtain ⟨⟨p0, p3, p6, p9, pS, pL⟩, g3, ⟨⟨h0, h3, h6, h14, h9, h13⟩, hL, hR, hS, hE⟩⟩ := h
  unfold MD PAg Pk HD dl
  simp (disch := omega) only [zr_n, zr_s, upd_n, upd_s]
  exact ⟨⟨p0, p3, p6, p9, pS, pL⟩, g3, ⟨⟨h0, h3, h6, trivial, h9, h13⟩, hL, hR, hS, hE⟩⟩
theorem MD_da {D M : zI} {v : Int32} (h : MD D M) : MD (da D v) (zr M 65 (upd (M 65) 16 v)) := by
  obtain ⟨⟨p0, p3, p6, p9, pS, pL⟩, g3, ⟨⟨h0, h3, h6, h14, h9, h13⟩, hL, hR, hS, hE⟩⟩ := h
  unfold MD PAg Pk HD da
  simp (disch := omega) only [zr_n, zr_s, upd_n, upd_s]
  exact ⟨⟨p0, p3, p6, p9, pS, pL⟩, g3, ⟨⟨h0, h3, h6, h14, h9, trivial⟩, hL, hR, hS, hE⟩⟩
theorem upd_agm {f g : Nat → Int32} {x y i j : Nat} {v : Int32} (hx : x = y ↔ i = j) (h : f x = g i) : upd f y v x = upd g j v i := by
  by_cases e : i = j
  · rw [e, upd_s, hx.mpr e, upd_s]
  · rw [upd_n e, upd_n (fun z => e (hx.mp z))]
    exact h
theorem MD_dk {D M : zI} {r : Nat} {v : Int32} (h : MD D M) : MD (dk D r v) (zr M 73 (upd (M 73) (2 * r + 1) v)) := by
  obtain ⟨⟨p0, p3, p6, p9, pS, pL⟩, g3, ⟨⟨h0, h3, h6, h14, h9, h13⟩, hL, hR, hS, hE⟩⟩ := h
  unfold MD PAg Pk HD dk
  simp (disch := omega) only [zr_n, zr_s]
  refine ⟨⟨p0, p3, p6, p9, pS, pL⟩, g3, ⟨⟨h0, h3, h6, h14, h9, h13⟩, hL, fun k hk => ⟨?_, upd_agm (by omega) (hR k hk).2⟩, hS, hE⟩⟩
  rw [upd_n (by omega)]
  exact (hR k hk).1
theorem MD_ds {D M : zI} {k : Nat} {v : Int32} (hv : ixN v 3) (h : MD D M) : MD (ds D k v) (zr M 72 (upd (M 72) (2 * k) v)) := by
  obtain ⟨⟨p0, p3, p6, p9, pS, pL⟩, g3, ⟨⟨h0, h3, h6, h14, h9, h13⟩, hL, hR, hS, hE⟩⟩ := h
  unfold MD PAg Pk HD ds
  simp (disch := omega) only [zr_n, zr_s]
  refine ⟨⟨p0, p3, p6, p9, pS, fun j hj => ?_⟩, g3, ⟨⟨h0, h3, h6, h14, h9, h13⟩, fun j hj => ⟨upd_agm (by omega) (hL j hj).1, ?_⟩, hR, hS, hE⟩⟩
  · by_cases e : j = k
    · subst e; rw [upd_s]; exact hv
    · rw [upd_n e]; exact pL j hj
  · rw [upd_n (by omega)]
    exact (hL j hj).2
def ltB (H : Int32 → Int32) : Nat → Int32 → Int32
  | 0, b => b
  | d + 1, b => ltB H d (if H (nI (d + 1)) = 0 then nI (d + 1) else b)
theorem ltB_F (H : Int32 → Int32) : ∀ d, d ≤ 24 → ltB H d (ltF H (24 - d) (d + 1)) = ltF H 24 1 := by
  intro d
  induction d with
  | zero => intro _; rfl
  | succ d ih =>
    intro h
    rw [← ih (by omega), ltB, show 24 - d = (24 - (d + 1)) + 1 by omega, ltF]
/-- one shift more, in the reference -/
def plm (i j : Nat) (f : Nat → Int32) : Nat → Int32 := upd (upd (upd (upd f (2 * i) (f (2 * j))) (2 * j) (f (2 * i))) (2 * i + 1) (f (2 * j + 1))) (2 * j + 1) (f (2 * i + 1))
theorem plm_at (i j : Nat) (f : Nat → Int32) (k : Nat) : plm i j f (2 * k) = (if k = j then f (2 * i) else if k = i then f (2 * j) else f (2 * k)) ∧ plm i j f (2 * k + 1) = (if k = j then f (2 * i + 1) else if k = i then f (2 * j + 1) else f (2 * k + 1)) := by
  unfold plm
  constructor
  · rw [upd_n (by omega), upd_n (by omega)]
    by_cases h1 : k = j
    · subst h1; rw [upd_s, if_pos rfl]
    · rw [upd_n (by omega), if_neg h1]
      by_cases h2 : k = i
      · subst h2; rw [upd_s, if_pos rfl]
      · rw [upd_n (by omega), if_neg h2]
  · by_cases h1 : k = j
    · subst h1; rw [upd_s, if_pos rfl]
    · rw [upd_n (by omega), if_neg h1]
      by_cases h2 : k = i
      · subst h2; rw [upd_s, if_pos rfl]
      · rw [upd_n (by omega), upd_n (by omega), upd_n (by omega), if_neg h2]
theorem plm_plm (i j : Nat) (f : Nat → Int32) : plm i j (plm i j f) = f := by
  have key : ∀ k, plm i j (plm i j f) (2 * k) = f (2 * k) ∧ plm i j (plm i j f) (2 * k + 1) = f (2 * k + 1) := by
    intro k
    obtain ⟨a1, a2⟩ := plm_at i j (plm i j f) k
    obtain ⟨b1, b2⟩ := plm_at i j f i
    obtain ⟨c1, c2⟩ := plm_at i j f j
    obtain ⟨d1, d2⟩ := plm_at i j f k
    rw [a1, a2, b1, b2, c1, c2, d1, d2]
    by_cases h1 : k = j
    · subst h1
      rw [if_pos rfl, if_pos rfl, if_pos rfl, if_pos rfl]
      by_cases h2 : i = k
      · subst h2; rw [if_pos rfl, if_pos rfl]; exact ⟨rfl, rfl⟩
      · rw [if_neg h2, if_neg h2]; exact ⟨rfl, rfl⟩
    · rw [if_neg h1, if_neg h1, if_neg h1, if_neg h1]
      by_cases h2 : k = i
      · subst h2; rw [if_pos rfl, if_pos rfl, if_pos rfl, if_pos rfl]; exact ⟨rfl, rfl⟩
      · rw [if_neg h2, if_neg h2, if_neg h2, if_neg h2]; exact ⟨rfl, rfl⟩
  funext x
  by_cases hx : x % 2 = 0
  · have e : x = 2 * (x / 2) := by omega
    rw [e]; exact (key (x / 2)).1
  · have e : x = 2 * (x / 2) + 1 := by omega
    rw [e]; exact (key (x / 2)).2
theorem MD_zxc {D M : zI} {i j : Nat} (hi : i < tn (D 28 6)) (hj : j < tn (D 28 6)) (h : MD D M) : MD (zxc i j D) (zr M 74 (plm i j (M 74))) := by
  obtain ⟨⟨p0, p3, p6, p9, pS, pL⟩, g3, ⟨⟨h0, h3, h6, h14, h9, h13⟩, hL, hR, hS, hE⟩⟩ := h
  have e : ∀ (f : Nat → Int32) (k : Nat), upd (upd f i (f j)) j (f i) k = if k = j then f i else if k = i then f j else f k := by
    intro f k
    by_cases h1 : k = j
    · subst h1; rw [upd_s, if_pos rfl]
    · rw [upd_n h1, if_neg h1]
      by_cases h2 : k = i
      · subst h2; rw [upd_s, if_pos rfl]
      · rw [upd_n h2, if_neg h2]
  unfold MD PAg Pk HD zxc
  simp (disch := omega) only [zr_n, zr_s]
  refine ⟨⟨p0, p3, p6, p9, fun k hk => ?_, pL⟩, g3, ⟨⟨h0, h3, h6, h14, h9, h13⟩, hL, hR, fun k hk => ?_, hE⟩⟩
  · rw [e, e]
    by_cases h1 : k = j
    · rw [if_pos h1, if_pos h1]; exact pS i hi
    · rw [if_neg h1, if_neg h1]
      by_cases h2 : k = i
      · rw [if_pos h2, if_pos h2]; exact pS j hj
      · rw [if_neg h2, if_neg h2]; exact pS k hk
  · rw [(plm_at i j (M 74) k).1, (plm_at i j (M 74) k).2, e, e]
    by_cases h1 : k = j
    · rw [if_pos h1, if_pos h1, if_pos h1, if_pos h1]; exact hS i hi
    · rw [if_neg h1, if_neg h1, if_neg h1, if_neg h1]
      by_cases h2 : k = i
      · rw [if_pos h2, if_pos h2, if_pos h2, if_pos h2]; exact hS j hj
      · rw [if_neg h2, if_neg h2, if_neg h2, if_neg h2]; exact hS k hk
/-- what holds in moreBy's loop -/
def QM (D M : zI) : Prop := MD D (zr M 65 (upd (M 65) 11 (D 28 6))) ∧ M 65 11 = nI (tn (D 28 6) + 1)
def sm (n : Nat) (M : zI) (r l : Int32) : zI := zr M 74 (upd (upd (M 74) (2 * n) r) (2 * n + 1) l)
theorem QM_dm {D M : zI} {r l : Int32} (hr : ixN r 6) (hl : ixN l 10) (h16 : tn (D 28 6) ≤ 16) (h : QM D M) : MD (dm D r l) (sm (tn (D 28 6)) M r l) := by
  obtain ⟨hM, h11⟩ := h
  have hn := (Pk_l hM.1).2.2.2.2.2.1
  obtain ⟨⟨p0, p3, p6, p9, pS, pL⟩, g3, hA⟩ := hM
  unfold PAg at hA
  simp (disch := omega) only [zr_n, zr_s, upd_n, upd_s] at hA
  obtain ⟨⟨h0, h3, h6, h14, h9, h13⟩, hL, hR, hS, hE⟩ := hA
  generalize hq : tn (D 28 6) = n at hn h16 hS pS h11
  have e1 : tn (nI (n + 1)) = n + 1 := nI_clamp (by omega)
  have e2 : (D 28 6 + 1 : Int32) = nI (n + 1) := by rw [hn, na_1]
  unfold MD PAg Pk HD dm dp sm
  rw [hq]
  simp (disch := omega) only [zr_n, zr_s, upd_n, upd_s]
  rw [e2, e1]
  refine ⟨⟨p0, p3, ?_, p9, fun k hk => ?_, pL⟩, g3, ⟨⟨h0, h3, h11, h14, h9, h13⟩, hL, hR, fun k hk => ?_, hE⟩⟩
  · rw [ixN_nI (by omega) (by decide)]; trivial
  · by_cases e : k = n
    · subst e; rw [upd_s, upd_s]; exact ⟨hr, hl⟩
    · rw [upd_n e, upd_n e]; exact pS k (by omega)
  · by_cases e : k = n
    · subst e
      simp only [upd_s, true_and, and_true]
      try rw [upd_n (show 2 * k ≠ 2 * k + 1 by omega), upd_s]
    · simp (disch := omega) only [upd_n]; exact hS k (by omega)
theorem QM_f {D M M' : zI} (h65 : M' 65 = M 65) (h72 : M' 72 = M 72) (h73 : M' 73 = M 73) (h74 : ∀ j, j < 2 * tn (D 28 6) → M' 74 j = M 74 j) (h75 : M' 75 = M 75) (h : QM D M) : QM D M' := by
  obtain ⟨⟨hp, hh, hA⟩, h11⟩ := h
  refine ⟨⟨hp, hh, ?_⟩, by rw [h65]; exact h11⟩
  unfold PAg at hA ⊢
  simp (disch := omega) only [zr_n, zr_s, upd_n, upd_s] at hA ⊢
  rw [h65, h72, h73, h75]
  obtain ⟨hs, hL, hR, hS, hE⟩ := hA
  refine ⟨hs, hL, hR, fun k hk => ?_, hE⟩
  rw [h74 (2 * k) (by omega), h74 (2 * k + 1) (by omega)]
  exact hS k hk
theorem nr_10 {k : Nat} (h : k < 2 ^ 31) : nI k - nI k / 10 * 10 = nI (k % 10) := pk_rem h (by decide) (by decide)
theorem nd_10 {k : Nat} (h : k < 2 ^ 31) : nI k / 10 = nI (k / 10) := pk_div h (by decide) (by decide)
theorem nr_10b {k : Nat} (h : k < 2 ^ 31) : nI k - nI (k / 10) * 10 = nI (k % 10) := by
  rw [← nd_10 h]
  exact nr_10 h
theorem c10 : (¬ (10 : Int32) = 0) = True := by decide
theorem c16n : (¬ (16 : Int32) = 0) = True := by decide
def moS (D : zI) : Int32 × Int32 := fo (fun k (s : Int32 × Int32) => if k % 10 < tn (D 28 0) then (if hD (dm D (nI (k / 10)) (nI (k % 10))) < s.2 then nI k else s.1, if hD (dm D (nI (k / 10)) (nI (k % 10))) < s.2 then hD (dm D (nI (k / 10)) (nI (k % 10))) else s.2) else s) (10 * tn (D 28 3)) 0 (-1, 999)
def tuS (D : zI) : Int32 × Int32 := fo (fun i s => fo (fun j (s : Int32 × Int32) => (if hD (zxc i j D) < s.2 then nI (16 * i + j) else s.1, if hD (zxc i j D) < s.2 then hD (zxc i j D) else s.2)) (tn (D 28 6) - (i + 1)) (i + 1) s) (tn (D 28 6)) 0 (-1, 999)
def moA (b : Int32) (s : Int32 × Int32) (w : Int32) : Int32 := if s.1 = -1 then -1 else if w = 0 then s.1 / b else if w = 1 then s.1 - s.1 / b * b else s.2
section
variable {xl : Nat} {J : zJ} {M D : zI}
theorem m_lateNow (h : MD D M) : ∃ M' : zI, (∀ Q : zQ, Rn (zG xl) 158 0 [.ref 65, .null, .null, .null] [] M J Q = Q (some (.int (ltF (fun v => hD (dl D v)) 24 1))) M' J) ∧ MD D M' ∧ Fr M M' := by
  have e14 : M 65 13 = D 28 14 := h.2.2.1.2.2.2.1
  have key : ∀ (d : Nat) (M1 : zI) (v b : Int32), d ≤ 24 → MD (dl D v) M1 → Fr M M1 → ∃ M' : zI, (∀ Q : zQ, Rn (zG xl) 158 10 [.ref 65, .int (D 28 14), .int b, .int (nI d)] [] M1 J Q = Q (some (.int (ltB (fun v => hD (dl D v)) d b))) M' J) ∧ MD D M' ∧ Fr M M' := by
    intro d
    induction d with
    | zero =>
      intro M1 v b hd hM hF
      refine ⟨zr M1 65 (upd (M1 65) 13 (D 28 14)), fun Q => ?_, ?_, Fr_65 (by omega) hF⟩
      · rw [h158_10, ltB]
        simp (disch := first | assumption | omega | (simp (disch := omega) only [zr_n, zr_s]; assumption)) only [x158_11, x158_14, x158_15, x158_16_65, x158_19, x158_20, x158_23, x158_24, x158_27, x158_30, x158_31, x158_34, x158_35, x158_36, x158_39, x158_42, x158_43, x158_44_65, x158_47, x158_48, ↓reduceIte, zkl_i, zkl_r, zkl_n, zkl_z, zkl_l, Option.toList_some, Option.toList_none, List.cons_append, List.nil_append, zcs_0, zcs_i, zcs_l, zcs_r, zle8, true_and, and_true, true_or, or_true, nI_0, z00, if_false]
      · have := MD_dl (v := D 28 14) hM
        rw [dl_dl, dl_id] at this
        exact this
    | succ d ih =>
      intro M1 v b hd hM hF
      have h1 : MD (dl D (nI (d + 1))) (zr M1 65 (upd (M1 65) 13 (nI (d + 1)))) := by
        have := MD_dl (v := nI (d + 1)) hM
        rw [dl_dl] at this
        exact this
      obtain ⟨M2, l1, l2, l3⟩ := m_livesD (xl := xl) (J := J) h1
      have hh := fun Q => m_harmNow (xl := xl) (J := J) (Q := Q) l2
      obtain ⟨M', g1, g2, g3⟩ := ih M2 (nI (d + 1)) (if hD (dl D (nI (d + 1))) = 0 then nI (d + 1) else b) (by omega) l2.1 (Fr_lives l3 (Fr_65 (by omega) hF))
      refine ⟨M', fun Q => ?_, g2, g3⟩
      have hp : (0 : Int32) < nI (d + 1) := (nI_ltI (a := 0) (by decide) (by omega)).mpr (by omega)
      rw [ltB, ← g1 Q, h158_10]
      simp (disch := first | assumption | omega | (simp (disch := omega) only [zr_n, zr_s]; assumption)) only [x158_11, x158_14, x158_15, x158_16_65, x158_19, x158_20, x158_23, x158_24, x158_27, x158_30, x158_31, x158_34, x158_35, x158_36, x158_39, gc_65, ↓reduceIte, zkl_i, zkl_r, zkl_n, zkl_z, zkl_l, Option.toList_some, Option.toList_none, List.cons_append, List.nil_append, zcs_0, zcs_i, zcs_l, zcs_r, zle8, true_and, and_true, true_or, or_true, hp, if_true, l1, hh, pk_m1]
      by_cases hz : hD (dl D (nI (d + 1))) = 0
      · simp only [hz, if_true]
      · simp only [hz, if_false]
  obtain ⟨M', g1, g2, g3⟩ := key 24 M (D 28 14) (-1) (Nat.le_refl _) (by rw [dl_id]; exact h) (Fr_refl M)
  refine ⟨M', fun Q => ?_, g2, g3⟩
  have e := ltB_F (fun v => hD (dl D v)) 24 (Nat.le_refl _)
  rw [← e, show ltF (fun v => hD (dl D v)) (24 - 24) (24 + 1) = -1 from rfl, ← g1 Q]
  simp (disch := first | assumption | omega | (simp (disch := omega) only [zr_n, zr_s]; assumption)) only [x158_0, x158_1_65, x158_4, x158_5, x158_6, x158_7, x158_9, ↓reduceIte, zkl_i, zkl_r, zkl_n, zkl_z, zkl_l, Option.toList_some, Option.toList_none, List.cons_append, List.nil_append, zcs_0, zcs_i, zcs_l, zcs_r, zle8, true_and, and_true, true_or, or_true, e14]
  rfl
theorem m_moreBy {w : Int32} (h : MD D M) (h16 : tn (D 28 6) ≤ 16) : ∃ M' : zI, (∀ Q : zQ, Rn (zG xl) 156 0 [.ref 65, .int w, .null, .null, .null, .null, .null] [] M J Q = Q (some (.int (moA 10 (moS D) w))) M' J) ∧ MD D M' ∧ Fr M M' := by
  obtain ⟨b0, -, b3, -, b6, hD6, b9, -⟩ := Pk_l h.1
  obtain ⟨e0, e3, e6, e9⟩ := MD_l h
  have hQ0 : QM D (zr M 65 (upd (M 65) 11 (nI (tn (D 28 6) + 1)))) := by
    refine ⟨?_, by rw [zr_s, upd_s]⟩
    rw [zr_s, zr_zr, upd_upd, show D 28 6 = M 65 11 from h.2.2.1.2.2.1.symm, upd_id, zr_id]
    exact h
  have lp := lpE (R := fun k (s : Int32 × Int32) (v : Value) X Q => Rn (zG xl) 156 27 [.ref 65, .int w, .int s.1, .int s.2, .int (nI (2 * tn (D 28 6))), .int (nI k), v] [] X J Q) (E := fun s X' Q => Q (some (.int (moA 10 s w))) X' J) (f := fun k (s : Int32 × Int32) => if k % 10 < tn (D 28 0) then (if hD (dm D (nI (k / 10)) (nI (k % 10))) < s.2 then nI k else s.1, if hD (dm D (nI (k / 10)) (nI (k % 10))) < s.2 then hD (dm D (nI (k / 10)) (nI (k % 10))) else s.2) else s) (n := 10 * tn (D 28 3)) (P := fun k s X => QM D X ∧ Fr M X) (P' := fun s X' => MD D X' ∧ Fr M X') (fun k s v X hk hP => by
    obtain ⟨p1, p2⟩ := hP
    have f0 : X 65 7 = nI (tn (D 28 0)) := by
      have := (MD_l p1.1).1
      rw [zr_s, upd_n (by decide)] at this
      exact this
    have f3 : X 65 9 = nI (tn (D 28 3)) := by
      have := (MD_l p1.1).2.1
      rw [zr_s, upd_n (by decide)] at this
      exact this
    by_cases hz : k % 10 < tn (D 28 0)
    · have hC := QM_dm (r := nI (k / 10)) (l := nI (k % 10)) (by rw [ixN_nI (by omega) (by decide)]; trivial) (by rw [ixN_nI (by omega) (by decide)]; trivial) h16 p1
      obtain ⟨M2, l1, l2, l3⟩ := m_livesD (xl := xl) (J := J) hC
      have hh := fun Q => m_harmNow (xl := xl) (J := J) (Q := Q) l2
      unfold sm at l1
      refine ⟨.int (hD (dm D (nI (k / 10)) (nI (k % 10)))), M2, fun Q => ?_, ?_, ?_⟩
      · show Rn _ _ _ _ _ _ _ _ = Rn _ _ _ _ _ _ _ _
        rw [h156_27, if_pos hz]
        simp (disch := first | assumption | omega | (simp (disch := omega) only [zr_n, zr_s]; assumption)) only [x156_29, x156_31, x156_32_65, x156_35, x156_36, x156_39, x156_41, x156_43, x156_44, x156_45_65, x156_48, x156_51, x156_52_65, x156_55, x156_57, x156_59, x156_61, x156_62, x156_63, x156_64_65, x156_67, x156_69, x156_70, x156_71, x156_73, x156_75, x156_76, x156_77, x156_78, x156_81, x156_82, x156_85, x156_87, x156_89, x156_90, x156_93, x156_95, x156_98, gc_65, bi_74, bs_74, ↓reduceIte, zkl_i, zkl_r, zkl_n, zkl_z, zkl_l, Option.toList_some, Option.toList_none, List.cons_append, List.nil_append, zcs_0, zcs_i, zcs_l, zcs_r, zle8, true_and, and_true, true_or, or_true, f0, f3, nm_10, nI_ltI, hk, if_true, c10, nr_10, nr_10b, nd_10, hz, ixN_nI, nI_clamp, na_1, zr_s, zr_zr, l1, hh, ite_Rn, ite_cons, ite_vi, ite_vl, ite_self, ite_zr, ite_zr1, ite_zr2, ite_upd, ite_upd1, ite_upd2]
        simp (disch := first | assumption | omega | (simp (disch := omega) only [zr_n, zr_s]; assumption)) only [x156_99, x156_100, x156_102, x156_103, x156_106, x156_107, x156_110, ↓reduceIte, zkl_i, zkl_r, zkl_n, zkl_z, zkl_l, Option.toList_some, Option.toList_none, List.cons_append, List.nil_append, zcs_0, zcs_i, zcs_l, zcs_r, zle8, true_and, and_true, true_or, or_true, m_lesser, na_1]
      · refine QM_f ?_ ?_ ?_ (fun j hj => ?_) ?_ p1
        · rw [l3 65 (by omega)]; unfold sm; rw [zr_n (by decide)]
        · rw [l3 72 (by omega)]; unfold sm; rw [zr_n (by decide)]
        · rw [l3 73 (by omega)]; unfold sm; rw [zr_n (by decide)]
        · rw [l3 74 (by omega)]; unfold sm; rw [zr_s, upd_n (by omega), upd_n (by omega)]
        · rw [l3 75 (by omega)]; unfold sm; rw [zr_n (by decide)]
      · exact Fr_lives l3 (Fr_zr (by omega) p2)
    · refine ⟨v, X, fun Q => ?_, p1, p2⟩
      show Rn _ _ _ _ _ _ _ _ = Rn _ _ _ _ _ _ _ _
      rw [h156_27, if_neg hz]
      simp (disch := first | assumption | omega | (simp (disch := omega) only [zr_n, zr_s]; assumption)) only [x156_29, x156_31, x156_32_65, x156_35, x156_36, x156_39, x156_41, x156_43, x156_44, x156_45_65, x156_48, x156_107, x156_110, ↓reduceIte, zkl_i, zkl_r, zkl_n, zkl_z, zkl_l, Option.toList_some, Option.toList_none, List.cons_append, List.nil_append, zcs_0, zcs_i, zcs_l, zcs_r, zle8, true_and, and_true, true_or, or_true, f0, f3, nm_10, nI_ltI, hk, if_true, c10, nr_10, hz, if_false, na_1]) (fun s v X hP => by
    obtain ⟨p1, p2⟩ := hP
    have f3 : X 65 9 = nI (tn (D 28 3)) := by
      have := (MD_l p1.1).2.1
      rw [zr_s, upd_n (by decide)] at this
      exact this
    refine ⟨zr X 65 (upd (X 65) 11 (nI (tn (D 28 6)))), fun Q => ?_, ?_, Fr_65 (by omega) p2⟩
    · show Rn _ _ _ _ _ _ _ _ = _
      rw [h156_27]
      simp (disch := first | assumption | omega | (simp (disch := omega) only [zr_n, zr_s]; assumption)) only [x156_29, x156_31, x156_32_65, x156_35, x156_36, x156_113, x156_114i, x156_114r, x156_115_65, x156_118, x156_119, x156_120_65, x156_123, x156_124, x156_125, x156_128, x156_129, x156_132, x156_133, x156_136, x156_137, x156_139, x156_140, x156_143, x156_144, x156_145, x156_148, x156_149, x156_151, x156_152, x156_155, x156_156, ↓reduceIte, zkl_i, zkl_r, zkl_n, zkl_z, zkl_l, Option.toList_some, Option.toList_none, List.cons_append, List.nil_append, zcs_0, zcs_i, zcs_l, zcs_r, zle8, true_and, and_true, true_or, or_true, f3, nm_10, nI_ltI, Nat.lt_irrefl, if_false, p1.2, nI_pred, c10]
      simp only [ite_QQ Q, ite_sm, ite_vi, ite_vl, ite_self]
      rfl
    · have := p1.1
      rw [hD6] at this
      exact this) (10 * tn (D 28 3)) 0 (-1, 999) .null _ (Nat.zero_add _) ⟨hQ0, Fr_65 (by omega) (Fr_refl M)⟩
  obtain ⟨M', g1, g2, g3⟩ := lp
  refine ⟨M', fun Q => ?_, g2, g3⟩
  rw [moS, ← g1 Q]
  simp (disch := first | assumption | omega | (simp (disch := omega) only [zr_n, zr_s]; assumption)) only [x156_0, x156_1, x156_2, x156_5, x156_6, x156_7, x156_8_65, x156_11, x156_12, x156_14, x156_15i, x156_15r, x156_16_65, x156_19, x156_20, x156_21_65, x156_24, x156_25, ↓reduceIte, zkl_i, zkl_r, zkl_n, zkl_z, zkl_l, Option.toList_some, Option.toList_none, List.cons_append, List.nil_append, zcs_0, zcs_i, zcs_l, zcs_r, zle8, true_and, and_true, true_or, or_true, e6, nm_2, na_1]
  rfl
theorem m_places {Q : zQ} {i j : Nat} (hi : i < 17) (hj : j < 17) : Rn (zG xl) 160 0 [.ref 65, .int (nI i), .int (nI j), .null, .null] [] M J Q = Q none (zr M 74 (plm i j (M 74))) J := by
  have l2 : ((0 : Int32) < 2) = True ∧ ((1 : Int32) < 2) = True ∧ ((2 : Int32) < 2) = False ∧ (0 : Int32) + 1 = 1 ∧ (1 : Int32) + 1 = 2 := by decide
  simp (disch := first | assumption | omega | (simp (disch := omega) only [zr_n, zr_s]; assumption)) only [x160_0, x160_1, ↓reduceIte, zkl_i, zkl_r, zkl_n, zkl_z, zkl_l, Option.toList_some, Option.toList_none, List.cons_append, List.nil_append, zcs_0, zcs_i, zcs_l, zcs_r, zle8, true_and, and_true, true_or, or_true]
  rw [h160_2]
  simp (disch := first | assumption | omega | (simp (disch := omega) only [zr_n, zr_s]; assumption)) only [x160_0, x160_1, x160_3, x160_4, x160_7, x160_8_65, x160_11, x160_12, x160_13, x160_14, x160_15, x160_16, x160_17, x160_19, x160_20_65, x160_23, x160_24, x160_25, x160_26, x160_27, x160_28, x160_29_65, x160_32, x160_33, x160_34, x160_35, x160_36, x160_37, x160_38, x160_39, x160_40_65, x160_43, x160_44, x160_45, x160_46, x160_47, x160_48, x160_50, x160_51, x160_54, x160_57, bi_74, bs_74, ↓reduceIte, zkl_i, zkl_r, zkl_n, zkl_z, zkl_l, Option.toList_some, Option.toList_none, List.cons_append, List.nil_append, zcs_0, zcs_i, zcs_l, zcs_r, zle8, true_and, and_true, true_or, or_true, l2, if_true, nm_2, Int32.add_zero, ixN_nI, nI_clamp, zr_s, zr_zr]
  rw [h160_2]
  simp (disch := first | assumption | omega | (simp (disch := omega) only [zr_n, zr_s]; assumption)) only [x160_0, x160_1, x160_3, x160_4, x160_7, x160_8_65, x160_11, x160_12, x160_13, x160_14, x160_15, x160_16, x160_17, x160_19, x160_20_65, x160_23, x160_24, x160_25, x160_26, x160_27, x160_28, x160_29_65, x160_32, x160_33, x160_34, x160_35, x160_36, x160_37, x160_38, x160_39, x160_40_65, x160_43, x160_44, x160_45, x160_46, x160_47, x160_48, x160_50, x160_51, x160_54, x160_57, bi_74, bs_74, ↓reduceIte, zkl_i, zkl_r, zkl_n, zkl_z, zkl_l, Option.toList_some, Option.toList_none, List.cons_append, List.nil_append, zcs_0, zcs_i, zcs_l, zcs_r, zle8, true_and, and_true, true_or, or_true, l2, if_true, nm_2, na_1, ixN_nI, nI_clamp, zr_s, zr_zr]
  rw [h160_2]
  simp (disch := first | assumption | omega | (simp (disch := omega) only [zr_n, zr_s]; assumption)) only [x160_0, x160_1, x160_3, x160_4, x160_7, x160_8_65, x160_11, x160_12, x160_13, x160_14, x160_15, x160_16, x160_17, x160_19, x160_20_65, x160_23, x160_24, x160_25, x160_26, x160_27, x160_28, x160_29_65, x160_32, x160_33, x160_34, x160_35, x160_36, x160_37, x160_38, x160_39, x160_40_65, x160_43, x160_44, x160_45, x160_46, x160_47, x160_48, x160_50, x160_51, x160_54, x160_57, ↓reduceIte, zkl_i, zkl_r, zkl_n, zkl_z, zkl_l, Option.toList_some, Option.toList_none, List.cons_append, List.nil_append, zcs_0, zcs_i, zcs_l, zcs_r, zle8, true_and, and_true, true_or, or_true, l2, if_false]
  rw [plm]
  have e1 : upd (upd (M 74) (2 * i) (M 74 (2 * j))) (2 * j) (M 74 (2 * i)) (2 * j + 1) = M 74 (2 * j + 1) := by rw [upd_n (by omega), upd_n (by omega)]
  have e2 : upd (upd (M 74) (2 * i) (M 74 (2 * j))) (2 * j) (M 74 (2 * i)) (2 * i + 1) = M 74 (2 * i + 1) := by rw [upd_n (by omega), upd_n (by omega)]
  rw [e1, e2]
theorem m_turnBy {w : Int32} (h : MD D M) : ∃ M' : zI, (∀ Q : zQ, Rn (zG xl) 161 0 [.ref 65, .int w, .null, .null, .null, .null, .null] [] M J Q = Q (some (.int (moA 16 (tuS D) w))) M' J) ∧ MD D M' ∧ Fr M M' := by
  obtain ⟨b0, -, b3, -, b6, hD6, b9, -⟩ := Pk_l h.1
  have n16 : ∀ k, (16 : Int32) * nI k = nI (16 * k) := fun k => pk_mul 16 k
  have outer := lpE (R := fun k (s : Int32 × Int32) (v : Value × Value) X Q => Rn (zG xl) 161 9 [.ref 65, .int w, .int s.1, .int s.2, .int (nI k), v.1, v.2] [] X J Q) (E := fun s X' Q => Q (some (.int (moA 16 s w))) X' J) (f := fun i s => fo (fun j (s : Int32 × Int32) => (if hD (zxc i j D) < s.2 then nI (16 * i + j) else s.1, if hD (zxc i j D) < s.2 then hD (zxc i j D) else s.2)) (tn (D 28 6) - (i + 1)) (i + 1) s) (n := tn (D 28 6)) (P := fun k s X => MD D X ∧ Fr M X) (P' := fun s X' => MD D X' ∧ Fr M X') (fun i s v X hi hP => by
    have inner := lpV (R := fun k (s : Int32 × Int32) (v : Value) X Q => Rn (zG xl) 161 24 [.ref 65, .int w, .int s.1, .int s.2, .int (nI i), .int (nI k), v] [] X J Q) (E := fun s v' X' Q => Rn (zG xl) 161 9 [.ref 65, .int w, .int s.1, .int s.2, .int (nI (i + 1)), .int (nI (tn (D 28 6))), v'] [] X' J Q) (f := fun j (s : Int32 × Int32) => (if hD (zxc i j D) < s.2 then nI (16 * i + j) else s.1, if hD (zxc i j D) < s.2 then hD (zxc i j D) else s.2)) (n := tn (D 28 6)) (P := fun k s X => MD D X ∧ Fr M X) (P' := fun s X' => MD D X' ∧ Fr M X') (fun k s v X hk hP => by
      obtain ⟨p1, p2⟩ := hP
      obtain ⟨e0, e3, e6, e9⟩ := MD_l p1
      have hC := MD_zxc hi hk p1
      obtain ⟨M2, l1, l2, l3⟩ := m_livesD (xl := xl) (J := J) hC
      have hh := fun Q => m_harmNow (xl := xl) (J := J) (Q := Q) l2
      have e74 : M2 74 = plm i k (X 74) := by rw [l3 74 (by omega), zr_s]
      have hpl := fun (M : zI) Q => m_places (xl := xl) (J := J) (Q := Q) (M := M) (i := i) (j := k) (by omega) (by omega)
      refine ⟨.int (hD (zxc i k D)), zr M2 74 (plm i k (M2 74)), fun Q => ?_, ?_, ?_⟩
      · show Rn _ _ _ _ _ _ _ _ = Rn _ _ _ _ _ _ _ _
        rw [h161_24]
        simp (disch := first | assumption | omega | (simp (disch := omega) only [zr_n, zr_s]; assumption)) only [x161_26, x161_27_65, x161_30, x161_33, x161_34, x161_36, x161_38, x161_41, x161_42, x161_45, x161_46, x161_49, x161_51, x161_53, x161_54, x161_57, x161_59, x161_61, x161_62, x161_64, x161_65, x161_68, gc_65, ↓reduceIte, zkl_i, zkl_r, zkl_n, zkl_z, zkl_l, Option.toList_some, Option.toList_none, List.cons_append, List.nil_append, zcs_0, zcs_i, zcs_l, zcs_r, zle8, true_and, and_true, true_or, or_true, e6, nI_ltI, hk, if_true, hpl, l1, hh, n16, nI_add, ite_Rn, ite_cons, ite_vi, ite_vl, ite_self, ite_zr, ite_zr1, ite_zr2, ite_upd, ite_upd1, ite_upd2]
        simp (disch := first | assumption | omega | (simp (disch := omega) only [zr_n, zr_s]; assumption)) only [x161_69, x161_70, x161_72, x161_73, x161_76, x161_77, x161_78, x161_80, x161_82, x161_85, x161_88, gc_65, ↓reduceIte, zkl_i, zkl_r, zkl_n, zkl_z, zkl_l, Option.toList_some, Option.toList_none, List.cons_append, List.nil_append, zcs_0, zcs_i, zcs_l, zcs_r, zle8, true_and, and_true, true_or, or_true, m_lesser, hpl, na_1]
      · rw [e74, plm_plm]
        refine MD_f ?_ ?_ ?_ ?_ ?_ p1
        · rw [zr_n (by decide), l3 65 (by omega), zr_n (by decide)]
        · rw [zr_n (by decide), l3 72 (by omega), zr_n (by decide)]
        · rw [zr_n (by decide), l3 73 (by omega), zr_n (by decide)]
        · rw [zr_s]
        · rw [zr_n (by decide), l3 75 (by omega), zr_n (by decide)]
      · exact Fr_zr (by omega) (Fr_lives l3 (Fr_zr (by omega) p2))) (fun s v X hP => by
      obtain ⟨p1, p2⟩ := hP
      obtain ⟨e0, e3, e6, e9⟩ := MD_l p1
      refine ⟨v, X, fun Q => ?_, p1, p2⟩
      show Rn _ _ _ _ _ _ _ _ = Rn _ _ _ _ _ _ _ _
      rw [h161_24]
      simp (disch := first | assumption | omega | (simp (disch := omega) only [zr_n, zr_s]; assumption)) only [x161_26, x161_27_65, x161_30, x161_91, x161_94, ↓reduceIte, zkl_i, zkl_r, zkl_n, zkl_z, zkl_l, Option.toList_some, Option.toList_none, List.cons_append, List.nil_append, zcs_0, zcs_i, zcs_l, zcs_r, zle8, true_and, and_true, true_or, or_true, e6, nI_ltI, Nat.lt_irrefl, if_false, na_1])
    obtain ⟨p1, p2⟩ := hP
    obtain ⟨e0, e3, e6, e9⟩ := MD_l p1
    obtain ⟨v', X', g1, g2⟩ := inner (tn (D 28 6) - (i + 1)) (i + 1) s v.2 X (by omega) ⟨p1, p2⟩
    refine ⟨(.int (nI (tn (D 28 6))), v'), X', fun Q => ?_, g2⟩
    show Rn _ _ _ _ _ _ _ _ = Rn _ _ _ _ _ _ _ _
    refine Eq.trans ?_ (g1 Q)
    rw [h161_9]
    simp (disch := first | assumption | omega | (simp (disch := omega) only [zr_n, zr_s]; assumption)) only [x161_11, x161_12_65, x161_15, x161_18, x161_20, x161_21, x161_22, ↓reduceIte, zkl_i, zkl_r, zkl_n, zkl_z, zkl_l, Option.toList_some, Option.toList_none, List.cons_append, List.nil_append, zcs_0, zcs_i, zcs_l, zcs_r, zle8, true_and, and_true, true_or, or_true, e6, nI_ltI, hi, if_true, na_1]) (fun s v X hP => by
    obtain ⟨p1, p2⟩ := hP
    obtain ⟨e0, e3, e6, e9⟩ := MD_l p1
    refine ⟨X, fun Q => ?_, p1, p2⟩
    show Rn _ _ _ _ _ _ _ _ = _
    rw [h161_9]
    simp (disch := first | assumption | omega | (simp (disch := omega) only [zr_n, zr_s]; assumption)) only [x161_11, x161_12_65, x161_15, x161_97, x161_98, x161_99, x161_102, x161_103, x161_106, x161_107, x161_110, x161_111, x161_113, x161_114, x161_117, x161_118, x161_119, x161_122, x161_123, x161_125, x161_126, x161_129, x161_130, ↓reduceIte, zkl_i, zkl_r, zkl_n, zkl_z, zkl_l, Option.toList_some, Option.toList_none, List.cons_append, List.nil_append, zcs_0, zcs_i, zcs_l, zcs_r, zle8, true_and, and_true, true_or, or_true, e6, nI_ltI, Nat.lt_irrefl, if_false, c16n]
    simp only [ite_QQ Q, ite_sm, ite_vi, ite_vl, ite_self]
    rfl) (tn (D 28 6)) 0 (-1, 999) (.null, .null) M (Nat.zero_add _) ⟨h, Fr_refl M⟩
  obtain ⟨M', g1, g2, g3⟩ := outer
  refine ⟨M', fun Q => ?_, g2, g3⟩
  rw [tuS, ← g1 Q]
  simp (disch := first | assumption | omega | (simp (disch := omega) only [zr_n, zr_s]; assumption)) only [x161_0, x161_1, x161_2, x161_5, x161_6, x161_7, ↓reduceIte, zkl_i, zkl_r, zkl_n, zkl_z, zkl_l, Option.toList_some, Option.toList_none, List.cons_append, List.nil_append, zcs_0, zcs_i, zcs_l, zcs_r, zle8, true_and, and_true, true_or, or_true]
  rfl
/-! hush -/
def hsA (e : Nat) (H : Int32 → Int32) (i : Int32) : Int32 := if H 0 = 0 then (match hs1 H e 0 with
  | some a => if i = -1 then 1 else if i = 0 then nI a else -1
  | none => match hs2 H e e 0 with
    | some (a, b) => if i = -1 then 2 else if i = 0 then nI a else nI b
    | none => -1) else if i = -1 then 0 else -1
theorem m_isHushed {b : Int32} (h : MD D M) (h13 : D 28 13 = 0) : ∃ M' : zI, (∀ Q : zQ, Rn (zG xl) 163 0 [.ref 65, .int b] [] M J Q = Q (some (.int (hsH D b))) M' J) ∧ MD D M' ∧ Fr M M' := by
  obtain ⟨M2, l1, l2, l3⟩ := m_livesD (xl := xl) (J := J) (MD_da (v := b) h)
  have hb := Pk_l l2.1.1
  have hlf := fun Q => m_leftByG (xl := xl) (J := J) (Q := Q) (M := zr M2 65 (upd (M2 65) 16 0)) (w := 1) (f := Nt (da D b) 39) (g := Nt (da D b) 41) (n := tn (da D b 28 0)) (by rw [zr_s, upd_n (by decide)]; exact (MD_l l2.1).1) hb.1 (fun k hk => by
    rw [zr_n (by decide), zr_n (by decide)]
    exact ⟨(l2.2.1 k hk).1, (l2.2.1 k hk).2.2⟩)
  refine ⟨zr M2 65 (upd (M2 65) 16 0), fun Q => ?_, ?_, Fr_65 (by omega) (Fr_lives l3 (Fr_65 (by omega) (Fr_refl M)))⟩
  · simp (disch := first | assumption | omega | (simp (disch := omega) only [zr_n, zr_s]; assumption)) only [x163_0, x163_1, x163_2_65, x163_5, x163_6, x163_9, x163_10, x163_11_65, x163_14, x163_15, x163_16, x163_19, x163_22, x163_23, x163_26, x163_27, gc_65, ↓reduceIte, zkl_i, zkl_r, zkl_n, zkl_z, zkl_l, Option.toList_some, Option.toList_none, List.cons_append, List.nil_append, zcs_0, zcs_i, zcs_l, zcs_r, zle8, true_and, and_true, true_or, or_true, l1, hlf, i1_0, if_false]
    rw [hsH, pdD]
    by_cases hz : sp_pd (Nt (da D b) 41) (Nt (da D b) 39) (tn (da D b 28 0)) = 0
    · simp only [hz, if_true, b1_1, true_and]
    · simp only [hz, if_false, b1_0, true_and]
  · have := MD_da (v := 0) (MD_lives l3 (MD_da (v := b) h))
    rw [da_da, ← h13, da_id] at this
    rw [h13] at this
    exact this
theorem m_hushBy {i : Int32} (h : MD D M) (h13 : D 28 13 = 0) : ∃ M' : zI, (∀ Q : zQ, Rn (zG xl) 164 0 [.ref 65, .int i, .null, .null] [] M J Q = Q (some (.int (hsA (tn (D 28 9)) (hsH D) i))) M' J) ∧ MD D M' ∧ Fr M M' := by
  obtain ⟨b0, -, b3, -, b6, hD6, b9, -⟩ := Pk_l h.1
  have L3 : ∀ a, a < tn (D 28 9) → ∀ (d k : Nat) (X : zI), k + d = tn (D 28 9) → (MD D X ∧ Fr M X) → ∃ X', (match hs2i (hsH D) a d k with
      | some b => (∀ Q, Rn (zG xl) 164 78 [.ref 65, .int i, .int (nI a), .int (nI k)] [] X J Q = Q (some (.int (if i = -1 then 2 else if i = 0 then nI a else nI b))) X' J)
      | none => (∀ Q, Rn (zG xl) 164 78 [.ref 65, .int i, .int (nI a), .int (nI k)] [] X J Q = Rn (zG xl) 164 66 [.ref 65, .int i, .int (nI (a + 1)), .int (nI (tn (D 28 9)))] [] X' J Q)) ∧ MD D X' ∧ Fr M X' := by
    intro a ha d
    induction d with
    | zero =>
      intro k X hk hX
      have hk : k = tn (D 28 9) := hk
      obtain ⟨e0, e3, e6, e9⟩ := MD_l hX.1
      subst hk
      refine ⟨X, fun Q => ?_, hX⟩
      rw [h164_78]
      simp (disch := first | assumption | omega | (simp (disch := omega) only [zr_n, zr_s]; assumption)) only [x164_79, x164_80_65, x164_83, x164_86, x164_87, x164_88, x164_89, x164_90, x164_91, x164_92, x164_93, x164_94, x164_97, x164_100, x164_101, x164_102, x164_105, x164_106, x164_109, x164_110, x164_113, x164_114, x164_117, x164_118, x164_119, x164_122, x164_125, x164_128, ↓reduceIte, zkl_i, zkl_r, zkl_n, zkl_z, zkl_l, Option.toList_some, Option.toList_none, List.cons_append, List.nil_append, zcs_0, zcs_i, zcs_l, zcs_r, zle8, true_and, and_true, true_or, or_true, e9, nI_ltI, Nat.lt_irrefl, if_false, na_1]
    | succ d ih =>
      intro k X hk hX
      have hk2 : k < tn (D 28 9) := by omega
      obtain ⟨e0, e3, e6, e9⟩ := MD_l hX.1
      obtain ⟨X1, i1, i2, i3⟩ := m_isHushed (xl := xl) (J := J) (b := 1 <<< (nI a &&& 31) ||| 1 <<< (nI k &&& 31)) hX.1 h13
      rw [hs2i]
      by_cases hz : hsH D (1 <<< (nI a &&& 31) ||| 1 <<< (nI k &&& 31)) = 0
      · rw [if_pos hz]
        obtain ⟨X', g, g2⟩ := ih (k + 1) X1 (by omega) ⟨i2, Fr_trans hX.2 i3⟩
        refine ⟨X', ?_, g2⟩
        have st : ∀ Q, Rn (zG xl) 164 78 [.ref 65, .int i, .int (nI a), .int (nI k)] [] X J Q = Rn (zG xl) 164 78 [.ref 65, .int i, .int (nI a), .int (nI (k + 1))] [] X1 J Q := by
          intro Q
          rw [h164_78]
          simp (disch := first | assumption | omega | (simp (disch := omega) only [zr_n, zr_s]; assumption)) only [x164_79, x164_80_65, x164_83, x164_86, x164_87, x164_88, x164_89, x164_90, x164_91, x164_92, x164_93, x164_94, x164_97, x164_100, x164_101, x164_102, x164_105, x164_106, x164_109, x164_110, x164_113, x164_114, x164_117, x164_118, x164_119, x164_122, gc_65, ↓reduceIte, zkl_i, zkl_r, zkl_n, zkl_z, zkl_l, Option.toList_some, Option.toList_none, List.cons_append, List.nil_append, zcs_0, zcs_i, zcs_l, zcs_r, zle8, true_and, and_true, true_or, or_true, e9, nI_ltI, hk2, if_true, i1, hz, na_1]
        cases hm : hs2i (hsH D) a d (k + 1) with
        | none =>
          rw [hm] at g
          exact fun Q => (st Q).trans (g Q)
        | some b =>
          rw [hm] at g
          exact fun Q => (st Q).trans (g Q)
      · rw [if_neg hz]
        refine ⟨X1, fun Q => ?_, i2, Fr_trans hX.2 i3⟩
        rw [h164_78]
        simp (disch := first | assumption | omega | (simp (disch := omega) only [zr_n, zr_s]; assumption)) only [x164_79, x164_80_65, x164_83, x164_86, x164_87, x164_88, x164_89, x164_90, x164_91, x164_92, x164_93, x164_94, x164_97, x164_100, x164_101, x164_102, x164_105, x164_106, x164_109, x164_110, x164_113, x164_114, x164_117, x164_118, x164_119, x164_122, gc_65, ↓reduceIte, zkl_i, zkl_r, zkl_n, zkl_z, zkl_l, Option.toList_some, Option.toList_none, List.cons_append, List.nil_append, zcs_0, zcs_i, zcs_l, zcs_r, zle8, true_and, and_true, true_or, or_true, e9, nI_ltI, hk2, if_true, i1, hz, if_false]
        simp only [ite_QQ Q, ite_sm, ite_vi, ite_vl, ite_self]
  have L2 : ∀ (d k : Nat) (X : zI) (v3 : Value), k + d = tn (D 28 9) → (MD D X ∧ Fr M X) → ∃ X', (∀ Q, Rn (zG xl) 164 66 [.ref 65, .int i, .int (nI k), v3] [] X J Q = Q (some (.int (match hs2 (hsH D) (tn (D 28 9)) d k with
      | some (a, b) => if i = -1 then 2 else if i = 0 then nI a else nI b
      | none => -1))) X' J) ∧ MD D X' ∧ Fr M X' := by
    intro d
    induction d with
    | zero =>
      intro k X v3 hk hX
      have hk : k = tn (D 28 9) := hk
      obtain ⟨e0, e3, e6, e9⟩ := MD_l hX.1
      subst hk
      refine ⟨X, fun Q => ?_, hX⟩
      rw [h164_66]
      simp (disch := first | assumption | omega | (simp (disch := omega) only [zr_n, zr_s]; assumption)) only [x164_67, x164_68_65, x164_71, x164_74, x164_75, x164_76, x164_77, x164_79, x164_80_65, x164_83, x164_86, x164_87, x164_88, x164_89, x164_90, x164_91, x164_92, x164_93, x164_94, x164_97, x164_100, x164_101, x164_102, x164_105, x164_106, x164_109, x164_110, x164_113, x164_114, x164_117, x164_118, x164_119, x164_122, x164_125, x164_128, x164_131, x164_132, ↓reduceIte, zkl_i, zkl_r, zkl_n, zkl_z, zkl_l, Option.toList_some, Option.toList_none, List.cons_append, List.nil_append, zcs_0, zcs_i, zcs_l, zcs_r, zle8, true_and, and_true, true_or, or_true, e9, nI_ltI, Nat.lt_irrefl, if_false]
      rfl
    | succ d ih =>
      intro k X v3 hk hX
      have hk2 : k < tn (D 28 9) := by omega
      obtain ⟨e0, e3, e6, e9⟩ := MD_l hX.1
      obtain ⟨X1, g, g2⟩ := L3 k hk2 (tn (D 28 9) - (k + 1)) (k + 1) X (by omega) hX
      have st : ∀ Q, Rn (zG xl) 164 66 [.ref 65, .int i, .int (nI k), v3] [] X J Q = Rn (zG xl) 164 78 [.ref 65, .int i, .int (nI k), .int (nI (k + 1))] [] X J Q := by
        intro Q
        rw [h164_66]
        simp (disch := first | assumption | omega | (simp (disch := omega) only [zr_n, zr_s]; assumption)) only [x164_67, x164_68_65, x164_71, x164_74, x164_75, x164_76, x164_77, ↓reduceIte, zkl_i, zkl_r, zkl_n, zkl_z, zkl_l, Option.toList_some, Option.toList_none, List.cons_append, List.nil_append, zcs_0, zcs_i, zcs_l, zcs_r, zle8, true_and, and_true, true_or, or_true, e9, nI_ltI, hk2, if_true, na_1]
      rw [hs2]
      cases hm : hs2i (hsH D) k (tn (D 28 9) - (k + 1)) (k + 1) with
      | some b =>
        rw [hm] at g
        exact ⟨X1, fun Q => (st Q).trans (g Q), g2⟩
      | none =>
        rw [hm] at g
        obtain ⟨X2, f1, f2⟩ := ih (k + 1) X1 (.int (nI (tn (D 28 9)))) (by omega) g2
        exact ⟨X2, fun Q => (st Q).trans ((g Q).trans (f1 Q)), f2⟩
  have L1 : ∀ (d k : Nat) (X : zI), k + d = tn (D 28 9) → (MD D X ∧ Fr M X) → ∃ X', (∀ Q, Rn (zG xl) 164 21 [.ref 65, .int i, .int (nI k), .null] [] X J Q = Q (some (.int (match hs1 (hsH D) d k with
      | some a => if i = -1 then 1 else if i = 0 then nI a else -1
      | none => match hs2 (hsH D) (tn (D 28 9)) (tn (D 28 9)) 0 with
        | some (a, b) => if i = -1 then 2 else if i = 0 then nI a else nI b
        | none => -1))) X' J) ∧ MD D X' ∧ Fr M X' := by
    intro d
    induction d with
    | zero =>
      intro k X hk hX
      have hk : k = tn (D 28 9) := hk
      obtain ⟨e0, e3, e6, e9⟩ := MD_l hX.1
      subst hk
      obtain ⟨X', g1, g2⟩ := L2 (tn (D 28 9)) 0 X .null (Nat.zero_add _) hX
      refine ⟨X', fun Q => ?_, g2⟩
      refine Eq.trans ?_ (g1 Q)
      rw [h164_21]
      simp (disch := first | assumption | omega | (simp (disch := omega) only [zr_n, zr_s]; assumption)) only [x164_22, x164_23_65, x164_26, x164_29, x164_30, x164_31, x164_32, x164_33, x164_36, x164_39, x164_40, x164_41, x164_44, x164_45, x164_48, x164_49, x164_52, x164_53, x164_56, x164_57, x164_58, x164_61, x164_64, x164_65, ↓reduceIte, zkl_i, zkl_r, zkl_n, zkl_z, zkl_l, Option.toList_some, Option.toList_none, List.cons_append, List.nil_append, zcs_0, zcs_i, zcs_l, zcs_r, zle8, true_and, and_true, true_or, or_true, e9, nI_ltI, Nat.lt_irrefl, if_false]
      rfl
    | succ d ih =>
      intro k X hk hX
      have hk2 : k < tn (D 28 9) := by omega
      obtain ⟨e0, e3, e6, e9⟩ := MD_l hX.1
      obtain ⟨X1, i1, i2, i3⟩ := m_isHushed (xl := xl) (J := J) (b := 1 <<< (nI k &&& 31)) hX.1 h13
      rw [hs1]
      by_cases hz : hsH D (1 <<< (nI k &&& 31)) = 0
      · rw [if_pos hz]
        obtain ⟨X', g1, g2⟩ := ih (k + 1) X1 (by omega) ⟨i2, Fr_trans hX.2 i3⟩
        refine ⟨X', fun Q => ?_, g2⟩
        refine Eq.trans ?_ (g1 Q)
        rw [h164_21]
        simp (disch := first | assumption | omega | (simp (disch := omega) only [zr_n, zr_s]; assumption)) only [x164_22, x164_23_65, x164_26, x164_29, x164_30, x164_31, x164_32, x164_33, x164_36, x164_39, x164_40, x164_41, x164_44, x164_45, x164_48, x164_49, x164_52, x164_53, x164_56, x164_57, x164_58, x164_61, gc_65, ↓reduceIte, zkl_i, zkl_r, zkl_n, zkl_z, zkl_l, Option.toList_some, Option.toList_none, List.cons_append, List.nil_append, zcs_0, zcs_i, zcs_l, zcs_r, zle8, true_and, and_true, true_or, or_true, e9, nI_ltI, hk2, if_true, i1, hz, na_1]
      · rw [if_neg hz]
        refine ⟨X1, fun Q => ?_, i2, Fr_trans hX.2 i3⟩
        rw [h164_21]
        simp (disch := first | assumption | omega | (simp (disch := omega) only [zr_n, zr_s]; assumption)) only [x164_22, x164_23_65, x164_26, x164_29, x164_30, x164_31, x164_32, x164_33, x164_36, x164_39, x164_40, x164_41, x164_44, x164_45, x164_48, x164_49, x164_52, x164_53, x164_56, x164_57, x164_58, x164_61, gc_65, ↓reduceIte, zkl_i, zkl_r, zkl_n, zkl_z, zkl_l, Option.toList_some, Option.toList_none, List.cons_append, List.nil_append, zcs_0, zcs_i, zcs_l, zcs_r, zle8, true_and, and_true, true_or, or_true, e9, nI_ltI, hk2, if_true, i1, hz, if_false]
        simp only [ite_QQ Q, ite_sm, ite_vi, ite_vl, ite_self]
  obtain ⟨X1, i1, i2, i3⟩ := m_isHushed (xl := xl) (J := J) (b := 0) h h13
  rw [hsA]
  by_cases hz : hsH D 0 = 0
  · rw [if_pos hz]
    obtain ⟨X', g1, g2⟩ := L1 (tn (D 28 9)) 0 X1 (Nat.zero_add _) ⟨i2, i3⟩
    refine ⟨X', fun Q => ?_, g2⟩
    refine Eq.trans ?_ (g1 Q)
    simp (disch := first | assumption | omega | (simp (disch := omega) only [zr_n, zr_s]; assumption)) only [x164_0, x164_1, x164_2, x164_5, x164_8, x164_9, x164_10, x164_13, x164_14, x164_17, x164_18, x164_19, x164_20, gc_65, ↓reduceIte, zkl_i, zkl_r, zkl_n, zkl_z, zkl_l, Option.toList_some, Option.toList_none, List.cons_append, List.nil_append, zcs_0, zcs_i, zcs_l, zcs_r, zle8, true_and, and_true, true_or, or_true, i1, hz, if_true]
    rfl
  · rw [if_neg hz]
    refine ⟨X1, fun Q => ?_, i2, i3⟩
    simp (disch := first | assumption | omega | (simp (disch := omega) only [zr_n, zr_s]; assumption)) only [x164_0, x164_1, x164_2, x164_5, x164_8, x164_9, x164_10, x164_13, x164_14, x164_17, x164_18, x164_19, x164_20, gc_65, ↓reduceIte, zkl_i, zkl_r, zkl_n, zkl_z, zkl_l, Option.toList_some, Option.toList_none, List.cons_append, List.nil_append, zcs_0, zcs_i, zcs_l, zcs_r, zle8, true_and, and_true, true_or, or_true, i1, hz, if_false]
    simp only [ite_QQ Q, ite_sm, ite_vi, ite_vl, ite_self]
end

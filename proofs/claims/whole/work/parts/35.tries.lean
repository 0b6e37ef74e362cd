/-! ===== loops that write; what a trial holds; the class's own tries ===== -/
theorem lpE {σ τ : Type} {R : Nat → σ → τ → zI → zQ → Prop} {E : σ → zI → zQ → Prop} {f : Nat → σ → σ} {n : Nat} {P : Nat → σ → zI → Prop} {P' : σ → zI → Prop}
    (hs : ∀ k s v X, k < n → P k s X → ∃ v' X', (∀ Q, R k s v X Q = R (k + 1) (f k s) v' X' Q) ∧ P (k + 1) (f k s) X')
    (he : ∀ s v X, P n s X → ∃ X', (∀ Q, R n s v X Q = E s X' Q) ∧ P' s X') : ∀ (d k : Nat) (s : σ) (v : τ) (X : zI), k + d = n → P k s X → ∃ X', (∀ Q, R k s v X Q = E (fo f d k s) X' Q) ∧ P' (fo f d k s) X' := by
  intro d
  induction d with
  | zero =>
    intro k s v X h hp
    have h : k = n := h
    subst h
    exact he s v X hp
  | succ d ih =>
    intro k s v X h hp
    obtain ⟨v1, X1, e1, p1⟩ := hs k s v X (by omega) hp
    obtain ⟨X2, e2, p2⟩ := ih (k + 1) (f k s) v1 X1 (by omega) p1
    exact ⟨X2, fun Q => (e1 Q).trans (e2 Q), p2⟩
/-- what the class's tries leave as it was -/
def Tr (I X : zI) : Prop := ∀ c, c < 28 ∨ (47 < c ∧ c < 61) ∨ 63 < c → X c = I c
theorem Tr_refl (I : zI) : Tr I I := fun _ _ => rfl
theorem Tr_trans {I X Y : zI} (h : Tr I X) (g : Tr X Y) : Tr I Y := fun c hc => (g c hc).trans (h c hc)
theorem Tr_zr {I X : zI} {c : Nat} {f : Nat → Int32} (hc : (28 ≤ c ∧ c ≤ 47) ∨ (61 ≤ c ∧ c ≤ 63)) (h : Tr I X) : Tr I (zr X c f) := fun d hd => by
  rw [zr_n (by omega)]
  exact h d hd
theorem Tr_zps {I X : zI} (h : Tr I X) : Tr I (zps 38 28 X) := fun d hd => by
  rw [zps_f (by omega)]
  exact h d hd
theorem Tr_ztf {I : zI} : Tr I (ztf I) := fun d hd => by
  unfold ztf
  simp (disch := omega) only [zr_n]
theorem Tr_ztf_61 {I : zI} : ztf I 61 = I 61 := by
  unfold ztf
  simp (disch := omega) only [zr_n]
theorem Tr_ztf_62 {I : zI} : ztf I 62 = I 62 := by
  unfold ztf
  simp (disch := omega) only [zr_n]
theorem Tr_ztf_63 {I : zI} : ztf I 63 = I 63 := by
  unfold ztf
  simp (disch := omega) only [zr_n]
theorem ztf_ag (I : zI) (h : Pk 8 I) : Ag 8 I 28 (ztf I) := by
  obtain ⟨l0, -, l3, -, l6, -, l9, -⟩ := Pk_l h
  unfold ztf
  refine ⟨?_, fun k hk => ?_, fun k hk => ?_, fun k hk => ?_, fun k hk => ?_⟩
  · simp (disch := omega) only [zr_n, zr_s, upd_n, upd_s]
    exact ⟨trivial, trivial, trivial, trivial, trivial, trivial⟩
  · simp (disch := omega) only [zr_n, zr_s, zro]
    rw [if_pos (by omega), if_pos (by omega)]
    exact ⟨rfl, rfl⟩
  · simp (disch := omega) only [zr_n, zr_s, zro]
    rw [if_pos (by omega), if_pos (by omega)]
    exact ⟨rfl, rfl⟩
  · simp (disch := omega) only [zr_n, zr_s, zro]
    rw [if_pos (by omega), if_pos (by omega)]
    exact ⟨rfl, rfl⟩
  · simp (disch := omega) only [zr_n, zr_s, zro]
    rw [if_pos (by omega), if_pos (by omega), if_pos (by omega)]
    exact ⟨rfl, rfl, rfl⟩
theorem CD_Pk {P : Nat} {X D : zI} (h : CD P X D) : Pk P X := Ag_Pk h.1 h.2.1
theorem CD_ztf {I D : zI} (h : CD 8 I D) : CD 28 (ztf I) D :=
  ⟨Ag_trans h.1 (ztf_ag I (CD_Pk h)), h.2.1, h.2.2.1, by unfold HD; rw [Tr_ztf 1000 (by omega)]; exact h.2.2.2⟩
theorem CD_f {X X' D : zI} (h : ∀ c, 28 ≤ c → c ≤ 37 → X' c = X c) (h2 : X' 1000 = X 1000) (g : CD 28 X D) : CD 28 X' D := by
  obtain ⟨g1, g2, g3, g4⟩ := g
  refine ⟨?_, g2, g3, by unfold HD; rw [h2]; exact g4⟩
  unfold Ag
  rw [h 28 (by omega) (by omega), h (28 + 1) (by omega) (by omega), h (28 + 2) (by omega) (by omega), h (28 + 3) (by omega) (by omega), h (28 + 4) (by omega) (by omega), h (28 + 5) (by omega) (by omega), h (28 + 6) (by omega) (by omega), h (28 + 7) (by omega) (by omega), h (28 + 8) (by omega) (by omega), h (28 + 9) (by omega) (by omega)]
  exact g1
theorem Tr_CD {I X D : zI} (h : Tr I X) (g : CD 8 I D) : CD 8 X D := by
  obtain ⟨g1, g2, g3, g4⟩ := g
  refine ⟨?_, g2, g3, by unfold HD; rw [h 1000 (by omega)]; exact g4⟩
  unfold Ag
  rw [h 8 (by omega), h (8 + 1) (by omega), h (8 + 2) (by omega), h (8 + 3) (by omega), h (8 + 4) (by omega), h (8 + 5) (by omega), h (8 + 6) (by omega), h (8 + 7) (by omega), h (8 + 8) (by omega), h (8 + 9) (by omega)]
  exact g1
/-- ways in which a plan is changed for a try -/
def dl (D : zI) (v : Int32) : zI := zr D 28 (upd (D 28) 14 v)
def da (D : zI) (v : Int32) : zI := zr D 28 (upd (D 28) 13 v)
def dk (D : zI) (r : Nat) (v : Int32) : zI := zr D 32 (upd (D 32) r v)
def ds (D : zI) (k : Nat) (v : Int32) : zI := zr D 29 (upd (D 29) k v)
theorem dl_dl (D : zI) (v w : Int32) : dl (dl D v) w = dl D w := by
  unfold dl
  rw [zr_s, zr_zr, upd_upd]
theorem da_da (D : zI) (v w : Int32) : da (da D v) w = da D w := by
  unfold da
  rw [zr_s, zr_zr, upd_upd]
theorem dk_dk (D : zI) (r : Nat) (v w : Int32) : dk (dk D r v) r w = dk D r w := by
  unfold dk
  rw [zr_s, zr_zr, upd_upd]
theorem ds_ds (D : zI) (k : Nat) (v w : Int32) : ds (ds D k v) k w = ds D k w := by
  unfold ds
  rw [zr_s, zr_zr, upd_upd]
theorem dl_id (D : zI) : dl D (D 28 14) = D := by
  unfold dl
  rw [upd_id, zr_id]
theorem da_id (D : zI) : da D (D 28 13) = D := by
  unfold da
  rw [upd_id, zr_id]
theorem dk_id (D : zI) (r : Nat) : dk D r (D 32 r) = D := by
  unfold dk
  rw [upd_id, zr_id]
theorem ds_id (D : zI) (k : Nat) : ds D k (D 29 k) = D := by
  unfold ds
  rw [upd_id, zr_id]
theorem CD_dl {X D : zI} {v : Int32} (h : CD 28 X D) : CD 28 (dl X v) (dl D v) := by
  obtain ⟨⟨⟨h0, h3, h6, h9, h13, h14⟩, hL, hR, hS, hE⟩, ⟨p0, p3, p6, p9, pS, pL⟩, g3, g4⟩ := h
  unfold CD Ag Pk HD dl
  simp (disch := omega) only [zr_n, zr_s, upd_n, upd_s]
  exact ⟨⟨⟨h0, h3, h6, h9, h13, trivial⟩, hL, hR, hS, hE⟩, ⟨p0, p3, p6, p9, pS, pL⟩, g3, g4⟩
theorem CD_da {X D : zI} {v : Int32} (h : CD 28 X D) : CD 28 (da X v) (da D v) := by
  obtain ⟨⟨⟨h0, h3, h6, h9, h13, h14⟩, hL, hR, hS, hE⟩, ⟨p0, p3, p6, p9, pS, pL⟩, g3, g4⟩ := h
  unfold CD Ag Pk HD da
  simp (disch := omega) only [zr_n, zr_s, upd_n, upd_s]
  exact ⟨⟨⟨h0, h3, h6, h9, trivial, h14⟩, hL, hR, hS, hE⟩, ⟨p0, p3, p6, p9, pS, pL⟩, g3, g4⟩
theorem upd_ag {f g : Nat → Int32} {k j : Nat} {v : Int32} (h : f k = g k) : upd f j v k = upd g j v k := by
  by_cases e : k = j
  · subst e; rw [upd_s, upd_s]
  · rw [upd_n e, upd_n e]; exact h
theorem CD_dk {X D : zI} {r : Nat} {v : Int32} (h : CD 28 X D) : CD 28 (dk X r v) (dk D r v) := by
  obtain ⟨⟨⟨h0, h3, h6, h9, h13, h14⟩, hL, hR, hS, hE⟩, ⟨p0, p3, p6, p9, pS, pL⟩, g3, g4⟩ := h
  unfold CD Ag Pk HD dk
  simp (disch := omega) only [zr_n, zr_s]
  exact ⟨⟨⟨h0, h3, h6, h9, h13, h14⟩, hL, fun k hk => ⟨(hR k hk).1, upd_ag (hR k hk).2⟩, hS, hE⟩, ⟨p0, p3, p6, p9, pS, pL⟩, g3, g4⟩
theorem CD_ds {X D : zI} {k : Nat} {v : Int32} (hv : ixN v 3) (h : CD 28 X D) : CD 28 (ds X k v) (ds D k v) := by
  obtain ⟨⟨⟨h0, h3, h6, h9, h13, h14⟩, hL, hR, hS, hE⟩, ⟨p0, p3, p6, p9, pS, pL⟩, g3, g4⟩ := h
  unfold CD Ag Pk HD ds
  simp (disch := omega) only [zr_n, zr_s]
  refine ⟨⟨⟨h0, h3, h6, h9, h13, h14⟩, fun j hj => ⟨upd_ag (hL j hj).1, (hL j hj).2⟩, hR, hS, hE⟩, ⟨p0, p3, p6, p9, pS, fun j hj => ?_⟩, g3, g4⟩
  by_cases e : j = k
  · subst e; rw [upd_s]; exact hv
  · rw [upd_n e]; exact pL j hj
theorem CD_zps {X D : zI} (h : CD 28 X D) : CD 28 (zps 38 28 X) D := (CN_pass (by decide) (by decide) h).1
/-- one shift more -/
def dp (p : Nat) (D : zI) (r l : Int32) : zI := zr (zr D 33 (upd (D 33) p r)) 34 (upd (D 34) p l)
def dm (D : zI) (r l : Int32) : zI := dp (tn (D 28 6)) (zr D 28 (upd (D 28) 6 (D 28 6 + 1))) r l
theorem dp_dp (p : Nat) (D : zI) (r l r' l' : Int32) : dp p (dp p D r l) r' l' = dp p D r' l' := by
  unfold dp
  simp (disch := omega) only [zr_n, zr_s]
  rw [zr_c (c := 34) (d := 33) (by decide), zr_zr, zr_zr, upd_upd, upd_upd]
theorem CD_dm {X D : zI} {r l : Int32} (hr : ixN r 6) (hl : ixN l 10) (h16 : tn (D 28 6) ≤ 16) (h : CD 28 X D) : CD 28 (dp (tn (D 28 6)) (zr X 28 (upd (X 28) 6 (nI (tn (D 28 6) + 1)))) r l) (dm D r l) := by
  have hn := (Pk_l h.2.1).2.2.2.2.2.1
  obtain ⟨⟨⟨h0, h3, h6, h9, h13, h14⟩, hL, hR, hS, hE⟩, ⟨p0, p3, p6, p9, pS, pL⟩, g3, g4⟩ := h
  generalize hq : tn (D 28 6) = n at hn h16 hS pS
  have e1 : tn (nI (n + 1)) = n + 1 := nI_clamp (by omega)
  have e2 : (D 28 6 + 1 : Int32) = nI (n + 1) := by rw [hn, na_1]
  unfold CD Ag Pk HD dm dp
  rw [hq]
  simp (disch := omega) only [zr_n, zr_s, upd_n, upd_s]
  rw [e2, e1]
  refine ⟨⟨⟨h0, h3, rfl, h9, h13, h14⟩, hL, hR, fun k hk => ?_, hE⟩, ⟨p0, p3, ?_, p9, fun k hk => ?_, pL⟩, g3, g4⟩
  · by_cases e : k = n
    · subst e; simp only [upd_s]; exact ⟨trivial, trivial⟩
    · rw [upd_n e, upd_n e, upd_n e, upd_n e]; exact hS k (by omega)
  · rw [ixN_nI (by omega) (by decide)]; trivial
  · by_cases e : k = n
    · subst e; rw [upd_s, upd_s]; exact ⟨hr, hl⟩
    · rw [upd_n e, upd_n e]; exact pS k (by omega)
theorem sw_sw {f : Nat → Int32} {a b : Nat} : upd (upd (upd (upd f a (f b)) b (f a)) a ((upd (upd f a (f b)) b (f a)) b)) b ((upd (upd f a (f b)) b (f a)) a) = f := by
  funext k
  rw [upd_s]
  by_cases h1 : k = b
  · subst h1
    rw [upd_s]
    by_cases h2 : a = k
    · subst h2; rw [upd_s]
    · rw [upd_n h2, upd_s]
  · rw [upd_n h1]
    by_cases h2 : k = a
    · subst h2; rw [upd_s]
    · rw [upd_n h2, upd_n h1, upd_n h2]
theorem CD_zxc {X D : zI} {a b : Nat} (ha : a < tn (D 28 6)) (hb : b < tn (D 28 6)) (h : CD 28 X D) : CD 28 (zxc a b X) (zxc a b D) := by
  obtain ⟨⟨⟨h0, h3, h6, h9, h13, h14⟩, hL, hR, hS, hE⟩, ⟨p0, p3, p6, p9, pS, pL⟩, g3, g4⟩ := h
  unfold CD Ag Pk HD zxc
  simp (disch := omega) only [zr_n, zr_s]
  obtain ⟨sa1, sa2⟩ := hS a ha
  obtain ⟨sb1, sb2⟩ := hS b hb
  refine ⟨⟨⟨h0, h3, h6, h9, h13, h14⟩, hL, hR, fun k hk => ?_, hE⟩, ⟨p0, p3, p6, p9, fun k hk => ?_, pL⟩, g3, g4⟩
  · rw [show X 33 a = D 33 a from sa1, show X 33 b = D 33 b from sb1, show X 34 a = D 34 a from sa2, show X 34 b = D 34 b from sb2]
    exact ⟨upd_ag (upd_ag (hS k hk).1), upd_ag (upd_ag (hS k hk).2)⟩
  · by_cases e : k = b
    · subst e; rw [upd_s, upd_s]; exact pS a ha
    · rw [upd_n e, upd_n e]
      by_cases e2 : k = a
      · subst e2; rw [upd_s, upd_s]; exact pS b hb
      · rw [upd_n e2, upd_n e2]; exact pS k hk
theorem zxc_f {X Y : zI} {a b : Nat} (h : ∀ c, 28 ≤ c → c ≤ 37 → Y c = zxc a b X c) : ∀ c, 28 ≤ c → c ≤ 37 → zxc a b Y c = X c := by
  intro c c1 c2
  have e33 : Y 33 = upd (upd (X 33) a (X 33 b)) b (X 33 a) := by
    rw [h 33 (by omega) (by omega)]
    unfold zxc
    rw [zr_n (by decide), zr_s]
  have e34 : Y 34 = upd (upd (X 34) a (X 34 b)) b (X 34 a) := by
    rw [h 34 (by omega) (by omega)]
    unfold zxc
    rw [zr_s]
  by_cases c3 : c = 33
  · subst c3
    unfold zxc
    rw [zr_n (by decide), zr_s, e33]
    exact sw_sw
  · by_cases c4 : c = 34
    · subst c4
      unfold zxc
      rw [zr_s, e34]
      exact sw_sw
    · have e := h c c1 c2
      unfold zxc at e ⊢
      rw [zr_n c4, zr_n c3] at e ⊢
      exact e
/-- keepIfBetter's row -/
def kb (a b h : Int32) (f : Nat → Int32) : Nat → Int32 := if f 2 = -1 ∨ h < f 2 then upd (upd (upd f 0 a) 1 b) 2 h else f
/-- the first limit without harm -/
def ltF (H : Int32 → Int32) : Nat → Nat → Int32
  | 0, _ => -1
  | d + 1, k => if H (nI k) = 0 then nI k else ltF H d (k + 1)
theorem ix3 : ixN (0 : Int32) 3 ∧ ixN (1 : Int32) 3 ∧ ixN (2 : Int32) 3 := by unfold ixN; decide
theorem t12 : (1 : Int32).toNatClampNeg = 1 ∧ (2 : Int32).toNatClampNeg = 2 := by decide
section
variable {xl : Nat} {J : zJ} {I X D : zI}
theorem c_keep {Q : zQ} {a b : Int32} (h : CD 28 X D) : Rn (zG xl) 87 0 [.ref 0, .int a, .int b, .null] [] X J Q = Q none (zr (zps 38 28 X) 61 (kb a b (hD D) (X 61))) J := by
  have hN : CN 38 28 (zps 38 28 X) D := CN_pass (by decide) (by decide) h
  have e : zps 38 28 X 61 = X 61 := zps_f (by omega)
  simp (disch := first | assumption | omega | (simp (disch := omega) only [zr_n, zr_s]; assumption)) only [x87_0, x87_1_0, x87_4, x87_5_0, x87_8, x87_11, x87_12_0, x87_15, x87_16_0, x87_19, x87_22, x87_23, x87_24_0, x87_27, x87_28, x87_29, x87_30, x87_33, x87_34, x87_35_0, x87_38, x87_39, x87_40, x87_43, x87_44_0, x87_47, x87_48, x87_49, x87_50, x87_51_0, x87_54, x87_55, x87_56, x87_57, x87_58_0, x87_61, x87_62, x87_63, x87_64, gc_38, gc_28, bi_61, bs_61, ↓reduceIte, zkl_i, zkl_r, zkl_n, zkl_z, zkl_l, Option.toList_some, Option.toList_none, List.cons_append, List.nil_append, zcs_0, zcs_i, zcs_l, zcs_r, zle8, true_and, and_true, true_or, or_true, d_pass_38 h, d_harmOf_38 hN, ix3, t0, t12, zr_n, zr_s, zr_zr, upd_n]
  rw [kb, e]
  by_cases h1 : X 61 2 = -1
  · simp only [h1, true_or, if_true]
  · by_cases h2 : hD D < X 61 2
    · simp only [h1, h2, or_true, if_true, if_false]
    · simp only [h1, h2, or_self, if_false]
      rw [← e, zr_id]
theorem c_late (h : CD 8 I D) : ∃ X : zI, (∀ Q : zQ, Rn (zG xl) 56 0 [.ref 0, .null] [] I J Q = Q (some (.int (ltF (fun v => hD (dl D v)) 24 1))) X J) ∧ Tr I X := by
  have key : ∀ (d k : Nat) (X : zI) (v : Int32), k + d = 25 → CD 28 X (dl D v) → Tr I X → ∃ X' : zI, (∀ Q : zQ, Rn (zG xl) 56 13 [.ref 0, .int (nI k)] [] X J Q = Q (some (.int (ltF (fun v => hD (dl D v)) d k))) X' J) ∧ Tr I X' := by
    intro d
    induction d with
    | zero =>
      intro k X v hk hX hT
      have hk : k = 25 := hk
      subst hk
      refine ⟨X, fun Q => ?_, hT⟩
      rw [h56_13]
      have e : (24 : Int32) < nI 25 := by decide
      simp only [x56_0, x56_1_0, x56_4, x56_5_0, x56_8, x56_11, x56_12, x56_14, x56_16, x56_19, x56_20_0, x56_23, x56_24_8, x56_24_28, x56_27, x56_28_0, x56_31, x56_32_0, x56_35, x56_38, x56_39_0, x56_42, x56_43_0, x56_46, x56_49, x56_52, x56_53, x56_54, x56_57, x56_60, x56_61, ↓reduceIte, zkl_i, zkl_r, zkl_n, zkl_z, zkl_l, Option.toList_some, Option.toList_none, List.cons_append, List.nil_append, zcs_0, zcs_i, zcs_l, zcs_r, zle8, true_and, and_true, true_or, or_true, e, if_true, ltF]
    | succ d ih =>
      intro k X v hk hX hT
      have e : ((24 : Int32) < nI k) = False := by
        apply eq_false
        rw [show (24 : Int32) = nI 24 from rfl, nI_ltI (by omega) (by omega)]
        omega
      have h1 : CD 28 (dl X (nI k)) (dl D (nI k)) := by
        have := CD_dl (v := nI k) hX
        rw [dl_dl] at this
        exact this
      have hN : CN 38 28 (zps 38 28 (dl X (nI k))) (dl D (nI k)) := CN_pass (by decide) (by decide) h1
      have hT2 : Tr I (zps 38 28 (dl X (nI k))) := Tr_zps (Tr_zr (by omega) hT)
      have hd1 := fun Q => d_pass_38 (xl := xl) (J := J) (Q := Q) h1
      unfold dl at hd1
      have hd2 := fun Q => d_harmOf_38 (xl := xl) (J := J) (Q := Q) hN
      rw [show dl X (nI k) = zr X 28 (upd (X 28) 14 (nI k)) from rfl] at hd2
      by_cases hz : hD (dl D (nI k)) = 0
      · refine ⟨_, fun Q => ?_, hT2⟩
        rw [h56_13, ltF, if_pos hz]
        simp (disch := first | assumption | omega | (simp (disch := omega) only [zr_n, zr_s]; assumption)) only [x56_0, x56_1_0, x56_4, x56_5_0, x56_8, x56_11, x56_12, x56_14, x56_16, x56_19, x56_20_0, x56_23, x56_24_8, x56_24_28, x56_27, x56_28_0, x56_31, x56_32_0, x56_35, x56_38, x56_39_0, x56_42, x56_43_0, x56_46, x56_49, x56_52, x56_53, x56_54, x56_57, x56_60, x56_61, gc_38, gc_28, ↓reduceIte, zkl_i, zkl_r, zkl_n, zkl_z, zkl_l, Option.toList_some, Option.toList_none, List.cons_append, List.nil_append, zcs_0, zcs_i, zcs_l, zcs_r, zle8, true_and, and_true, true_or, or_true, e, if_false, hd1, hd2, hz, if_true]
        rfl
      · obtain ⟨X', g1, g2⟩ := ih (k + 1) _ (nI k) (by omega) hN.1 hT2
        refine ⟨X', fun Q => ?_, g2⟩
        rw [h56_13, ltF, if_neg hz, ← g1 Q]
        simp (disch := first | assumption | omega | (simp (disch := omega) only [zr_n, zr_s]; assumption)) only [x56_0, x56_1_0, x56_4, x56_5_0, x56_8, x56_11, x56_12, x56_14, x56_16, x56_19, x56_20_0, x56_23, x56_24_8, x56_24_28, x56_27, x56_28_0, x56_31, x56_32_0, x56_35, x56_38, x56_39_0, x56_42, x56_43_0, x56_46, x56_49, x56_52, x56_53, x56_54, x56_57, x56_60, x56_61, gc_38, gc_28, ↓reduceIte, zkl_i, zkl_r, zkl_n, zkl_z, zkl_l, Option.toList_some, Option.toList_none, List.cons_append, List.nil_append, zcs_0, zcs_i, zcs_l, zcs_r, zle8, true_and, and_true, true_or, or_true, e, if_false, hd1, hd2, hz, na_1]
        rfl
  obtain ⟨X, g1, g2⟩ := key 24 1 (ztf I) (D 28 14) rfl (by rw [dl_id]; exact CD_ztf h) Tr_ztf
  refine ⟨X, fun Q => ?_, g2⟩
  rw [← g1 Q]
  simp (disch := first | assumption | omega | (simp (disch := omega) only [zr_n, zr_s]; assumption)) only [x56_0, x56_1_0, x56_4, x56_5_0, x56_8, x56_11, x56_12, x56_14, x56_16, x56_19, x56_20_0, x56_23, x56_24_8, x56_24_28, x56_27, x56_28_0, x56_31, x56_32_0, x56_35, x56_38, x56_39_0, x56_42, x56_43_0, x56_46, x56_49, x56_52, x56_53, x56_54, x56_57, x56_60, x56_61, gc_8, gc_28, ↓reduceIte, zkl_i, zkl_r, zkl_n, zkl_z, zkl_l, Option.toList_some, Option.toList_none, List.cons_append, List.nil_append, zcs_0, zcs_i, zcs_l, zcs_r, zle8, true_and, and_true, true_or, or_true, c_takeFrom]
  rfl
end

/-! ===== the texts of both; the state of both ===== -/
def TB (H : Nat) (lf : Int32) (g : Int32 → Int32 → Int32) (m : Nat) (b : Nat) : Prop := (g 0 (nI b) = -9 ↔ zsx H (c16 (nI b)) < 0) ∧ (¬ zsx H (c16 (nI b)) < 0 → g 0 (nI b) = zsx H (c16 (nI b)) ∧ (zsx H (c16 (nI b))).toInt < m) ∧ (g 1 (nI b) = -9 ↔ (nI b < 48 + lf ∨ 57 < nI b)) ∧ (¬ (nI b < 48 + lf ∨ 57 < nI b) → g 1 (nI b) = nI b - 48 ∧ ¬ nI b - 48 < 0 ∧ nI b - 48 < 10) ∧ (g 2 (nI b) = -9 ↔ ¬ nI b = 59)
theorem TB_l : ∀ b, b < 256 → TB 1001 1 (lnO 108 100 116) 3 b := by unfold TB; decide +kernel
theorem TB_r : ∀ b, b < 256 → TB 1002 1 (lnO 97 113 111) 3 b := by unfold TB; decide +kernel
theorem TB_s : ∀ b, b < 256 → TB 1003 0 shO 6 b := by unfold TB; decide +kernel
theorem sp_fl_c {f g : Nat → Int32} {e : Int32} : ∀ (d k : Nat), (∀ j, k ≤ j → j < k + d → f j = g j) → sp_fl f e d k = sp_fl g e d k := by
  intro d
  induction d with
  | zero => intro k _; rfl
  | succ d ih =>
    intro k h
    rw [sp_fl, sp_fl, h k (Nat.le_refl _) (by omega), ih (k + 1) (fun j a b => h j (by omega) (by omega))]
theorem ft_eq {H m : Nat} {lf : Int32} {g : Int32 → Int32 → Int32} {f f' : Nat → Int32} {o k : Nat} (ht : ∀ b, b < 256 → TB H lf g m b) (hb : ixN (f k) 256) (he : f' (o + k) = f k) : mft g f' o k = sp_ft H lf f k := by
  obtain ⟨b, hb2, eb⟩ := (ixN_iff (by decide)).mp hb
  obtain ⟨t1, t2, t3, t4, t5⟩ := ht b hb2
  unfold mft sp_ft
  rw [he, eb]
  have hk : k % 3 = 0 ∨ k % 3 = 1 ∨ k % 3 = 2 := by omega
  rcases hk with hk | hk | hk
  · rw [hk, if_pos rfl, nI_0]
    by_cases z : zsx H (c16 (nI b)) < 0
    · rw [if_pos z, if_pos (t1.mpr z)]
    · rw [if_neg z, if_neg (fun q => z (t1.mp q))]
  · rw [hk, if_neg (show ¬ 1 = 0 by decide), if_pos rfl, show nI 1 = 1 from rfl]
    by_cases z : nI b < 48 + lf
    · rw [if_pos z, if_pos (t3.mpr (Or.inl z))]
    · by_cases z2 : 57 < nI b
      · rw [if_neg z, if_pos z2, if_pos (t3.mpr (Or.inr z2))]
      · rw [if_neg z, if_neg z2, if_neg (fun q => by rcases t3.mp q with q | q; exact z q; exact z2 q)]
  · rw [hk, if_neg (show ¬ 2 = 0 by decide), if_neg (show ¬ 2 = 1 by decide), show nI 2 = 2 from rfl]
    by_cases z : nI b = 59
    · rw [if_pos z, if_neg (fun q => t5.mp q z)]
    · rw [if_neg z, if_pos (t5.mpr z)]
theorem fp_eq {H m : Nat} {lf : Int32} {g : Int32 → Int32 → Int32} {f f' : Nat → Int32} {o l : Nat} (ht : ∀ b, b < 256 → TB H lf g m b) (hb : ∀ j, j < l → ixN (f j) 256) (he : ∀ j, j < l → f' (o + j) = f j) : mfp g f' o l = sp_fp H lf f l := by
  unfold mfp sp_fp
  exact sp_fl_c l 0 (fun j _ h => ft_eq ht (hb j (by omega)) (he j (by omega)))
theorem pair_eq {H m : Nat} {lf : Int32} {g : Int32 → Int32 → Int32} {f f' : Nat → Int32} {o l i : Nat} (hl : l < 1000) (ht : ∀ b, b < 256 → TB H lf g m b) (hb : ∀ j, j < l → ixN (f j) 256) (he : ∀ j, j < l → f' (o + j) = f j) (hi : i < sp_pn H lf f l) : 3 * i + 1 < l ∧ g 0 (f' (o + 3 * i)) = sp_hd H f i ∧ g 1 (f' (o + (3 * i + 1))) = sp_fg f i ∧ ¬ sp_hd H f i < 0 ∧ (sp_hd H f i).toInt < m ∧ ¬ sp_fg f i < 0 ∧ sp_fg f i < 10 := by
  have hle := sp_pn_le (H := H) (lf := lf) (f := f) hl
  unfold sp_pn at hi hle
  by_cases hz : sp_fp H lf f l = -1
  · rw [if_pos hz] at hi hle
    have hl3 : 3 * i + 1 < l := by omega
    have hfit := (sp_fl_m1 l 0 (by omega) hz).2
    have h0 := hfit (3 * i) (by omega) (by omega)
    have h1 := hfit (3 * i + 1) (by omega) (by omega)
    obtain ⟨b, hb2, eb⟩ := (ixN_iff (by decide)).mp (hb (3 * i) (by omega))
    obtain ⟨c, hc2, ec⟩ := (ixN_iff (by decide)).mp (hb (3 * i + 1) hl3)
    obtain ⟨t1, t2, t3, t4, t5⟩ := ht b hb2
    obtain ⟨u1, u2, u3, u4, u5⟩ := ht c hc2
    unfold sp_ft at h0 h1
    rw [if_pos (by omega), eb] at h0
    rw [if_neg (by omega), if_pos (by omega), ec] at h1
    have z0 : ¬ zsx H (c16 (nI b)) < 0 := fun q => h0 (if_pos q)
    have z1 : ¬ (nI c < 48 + lf ∨ 57 < nI c) := fun q => h1 (by
      by_cases q1 : nI c < 48 + lf
      · rw [if_pos q1]
      · rcases q with q | q
        · exact absurd q q1
        · rw [if_neg q1, if_pos q])
    rw [he _ (by omega), he _ hl3]
    unfold sp_hd sp_fg
    rw [eb, ec]
    exact ⟨hl3, (t2 z0).1, (u4 z1).1, z0, (t2 z0).2, (u4 z1).2.1, (u4 z1).2.2⟩
  · rw [if_neg hz] at hi
    omega
/-- a text of the class and what the plan holds of it -/
def TXR (T H : Nat) (lf : Int32) (C A F : Nat) (I : zI) : Prop := tn (I T 3) ≤ C ∧ I T 3 = nI (tn (I T 3)) ∧ I T 1 = lf ∧ (∀ j, j < tn (I T 3) → ixN (I (T + 1) j) 256) ∧ I 8 F = nI (sp_pn H lf (I (T + 1)) (tn (I T 3))) ∧ ∀ k, k < sp_pn H lf (I (T + 1)) (tn (I T 3)) → I A k = sp_hd H (I (T + 1)) k ∧ I (A + 1) k = sp_fg (I (T + 1)) k
/-- .. and the reference's -/
def TXM (t o T : Nat) (I M : zI) : Prop := M 71 t = I T 3 ∧ ∀ j, j < tn (I T 3) → M 70 (o + j) = I (T + 1) j
def SHc (I : zI) : Prop := ∀ s, s < 4 → (I (53 + 2 * s) 0 = 0 ∨ I (53 + 2 * s) 0 = 1) ∧ ixN (I (53 + 2 * s) 1) 3 ∧ ixN (I (53 + 2 * s) 2) 61
def SHm (I M : zI) : Prop := ∀ s, s < 4 → M 66 s = (if I (53 + 2 * s) 0 = 0 then I (53 + 2 * s) 1 else -1) ∧ M 67 s = I (53 + 2 * s) 2 ∧ ∀ j, j < tn (I (53 + 2 * s) 2) → M 68 (60 * s + j) = I (54 + 2 * s) j
def EVm (I M : zI) : Prop := M 65 13 = I 8 14 ∧ M 65 14 = I 8 9 ∧ M 65 16 = 0 ∧ ∀ e, e < tn (I 8 9) → M 75 (3 * e) = I 15 e ∧ M 75 (3 * e + 1) = I 16 e ∧ M 75 (3 * e + 2) = I 17 e
def RP (I : zI) : Prop := TXR 2 1001 1 29 9 0 I ∧ TXR 4 1002 1 17 11 3 I ∧ TXR 6 1003 0 47 13 6 I ∧ ixN (I 8 9) 9 ∧ I 8 13 = 0 ∧ HD I
def RC (I : zI) : Prop := RP I ∧ SG I ∧ SHc I ∧ CN 18 8 I (pD I)
def RM (I M : zI) : Prop := TXM 0 0 2 I M ∧ TXM 1 48 4 I M ∧ TXM 2 96 6 I M ∧ EVm I M ∧ SM I M ∧ SHm I M ∧ M 65 4 = I 0 11
theorem ixN_m {x : Int32} {m : Nat} (h : ¬ x < 0) (h2 : x.toInt < m) : ixN x m := by
  refine ⟨?_, h2⟩
  rw [Int32.lt_iff_toInt_lt] at h
  have : (0 : Int32).toInt = 0 := by decide
  omega
theorem TXR_n {T H C A F : Nat} {lf : Int32} {I : zI} (hC : C < 1000) (h : TXR T H lf C A F I) : I 8 F = nI (sp_pn H lf (I (T + 1)) (tn (I T 3))) ∧ 3 * sp_pn H lf (I (T + 1)) (tn (I T 3)) ≤ C + 1 ∧ tn (I 8 F) = sp_pn H lf (I (T + 1)) (tn (I T 3)) := by
  obtain ⟨h1, h2, h3, h4, h5, h6⟩ := h
  have hle := sp_pn_le (H := H) (lf := lf) (f := I (T + 1)) (show tn (I T 3) < 1000 by omega)
  refine ⟨h5, by omega, ?_⟩
  rw [h5]
  exact nI_clamp (by omega)
theorem TXR_k {T H C A F m : Nat} {lf : Int32} {I : zI} {g : Int32 → Int32 → Int32} (hC : C < 1000) (ht : ∀ b, b < 256 → TB H lf g m b) (h : TXR T H lf C A F I) : ∀ k, k < tn (I 8 F) → ixN (I A k) m ∧ ixN (I (A + 1) k) 10 := by
  intro k hk
  rw [(TXR_n hC h).2.2] at hk
  obtain ⟨h1, h2, h3, h4, h5, h6⟩ := h
  obtain ⟨e1, e2⟩ := h6 k hk
  obtain ⟨-, -, -, p1, p2, p3, p4⟩ := pair_eq (o := 0) (f' := I (T + 1)) (show tn (I T 3) < 1000 by omega) ht h4 (fun j _ => by rw [Nat.zero_add]) hk
  rw [e1, e2]
  refine ⟨ixN_m p1 p2, ixN_m p3 ?_⟩
  rw [Int32.lt_iff_toInt_lt] at p4
  exact p4
theorem RP_Pk {I : zI} (h : RP I) : Pk 8 I := by
  obtain ⟨tl, tr, ts, h9, h13, hH⟩ := h
  obtain ⟨l1, l2, l3⟩ := TXR_n (by decide) tl
  obtain ⟨r1, r2, r3⟩ := TXR_n (by decide) tr
  obtain ⟨s1, s2, s3⟩ := TXR_n (by decide) ts
  refine ⟨?_, ?_, ?_, h9, TXR_k (by decide) TB_s ts, fun k hk => (TXR_k (by decide) TB_l tl k hk).1⟩
  · rw [l1, ixN_nI (by omega) (by decide)]; trivial
  · rw [r1, ixN_nI (by omega) (by decide)]; trivial
  · rw [s1, ixN_nI (by omega) (by decide)]; trivial
theorem RP_16 {I : zI} (h : RP I) : tn (I 8 6) ≤ 16 := by
  obtain ⟨s1, s2, s3⟩ := TXR_n (by decide) h.2.2.1
  omega
theorem RP_CD {I : zI} (h : RP I) : CD 8 I (pD I) := ⟨Ag_sym (pD_ag I), Ag_Pk (pD_ag I) (RP_Pk h), h.2.2.2.2.2, h.2.2.2.2.2⟩
theorem RP_gv {I : zI} (h : RP I) : ∀ k, k < tn (pD I 28 0) → ixN (pD I 30 k) 10 := fun k hk => (TXR_k (by decide) TB_l h.1 k hk).2
theorem RP_f {I I' : zI} (h : ∀ c, c < 18 → I' c = I c) (h2 : I' 1000 = I 1000) (g : RP I) : RP I' := by
  unfold RP TXR HD
  rw [h 2 (by omega), h (2 + 1) (by omega), h 4 (by omega), h (4 + 1) (by omega), h 6 (by omega), h (6 + 1) (by omega), h 8 (by omega), h 9 (by omega), h (9 + 1) (by omega), h 11 (by omega), h (11 + 1) (by omega), h 13 (by omega), h (13 + 1) (by omega), h2]
  exact g
theorem CN_8 {X X' D : zI} (h : ∀ c, 8 ≤ c → c ≤ 27 → X' c = X c) (h2 : X' 1000 = X 1000) (g : CN 18 8 X D) : CN 18 8 X' D := by
  obtain ⟨⟨g1, g2, g3, g4⟩, g5, g6⟩ := g
  refine ⟨⟨?_, g2, g3, by unfold HD; rw [h2]; exact g4⟩, by rw [h 18 (by omega) (by omega)]; exact g5, ?_⟩
  · unfold Ag
    rw [h 8 (by omega) (by omega), h (8 + 1) (by omega) (by omega), h (8 + 2) (by omega) (by omega), h (8 + 3) (by omega) (by omega), h (8 + 4) (by omega) (by omega), h (8 + 5) (by omega) (by omega), h (8 + 6) (by omega) (by omega), h (8 + 7) (by omega) (by omega), h (8 + 8) (by omega) (by omega), h (8 + 9) (by omega) (by omega)]
    exact g1
  · unfold NEq
    rw [h (18 + 1) (by omega) (by omega), h (18 + 2) (by omega) (by omega), h (18 + 3) (by omega) (by omega), h (18 + 4) (by omega) (by omega), h (18 + 5) (by omega) (by omega), h (18 + 6) (by omega) (by omega), h (18 + 7) (by omega) (by omega), h (18 + 8) (by omega) (by omega), h (18 + 9) (by omega) (by omega)]
    exact g6
theorem pD_Tr {I X : zI} (h : Tr I X) : pD X = pD I := pD_f (fun c c1 c2 => h c (by omega)) (h 1000 (by omega))
theorem RC_Tr {I X : zI} (h : Tr I X) (g : RC I) : RC X := by
  obtain ⟨g1, g2, g3, g4⟩ := g
  refine ⟨RP_f (fun c hc => h c (by omega)) (h 1000 (by omega)) g1, Tr_SG h g2, fun s hs => ?_, ?_⟩
  · rw [h (53 + 2 * s) (by omega)]
    exact g3 s hs
  · rw [pD_Tr h]
    exact CN_8 (fun c c1 c2 => h c (by omega)) (h 1000 (by omega)) g4
theorem RM_Tr {I X M : zI} (h : Tr I X) (g : RM I M) : RM X M := by
  unfold RM TXM EVm SM SHm at g ⊢
  rw [h 2 (by omega), h (2 + 1) (by omega), h 4 (by omega), h (4 + 1) (by omega), h 6 (by omega), h (6 + 1) (by omega), h 8 (by omega), h 15 (by omega), h 16 (by omega), h 17 (by omega), h 48 (by omega), h 49 (by omega), h 50 (by omega), h 51 (by omega), h 0 (by omega)]
  obtain ⟨g1, g2, g3, g4, g5, g6, g7⟩ := g
  refine ⟨g1, g2, g3, g4, g5, fun s hs => ?_, g7⟩
  rw [h (53 + 2 * s) (by omega), h (54 + 2 * s) (by omega)]
  exact g6 s hs
theorem RM_65 {I M M' : zI} (h : ∀ c, 65 ≤ c → c ≤ 88 → M' c = M c) (g : RM I M) : RM I M' := by
  unfold RM TXM EVm SM SHm at g ⊢
  rw [h 65 (by omega) (by omega), h 66 (by omega) (by omega), h 67 (by omega) (by omega), h 68 (by omega) (by omega), h 70 (by omega) (by omega), h 71 (by omega) (by omega), h 75 (by omega) (by omega), h 87 (by omega) (by omega)]
  exact g
theorem RM_Fr {I M M' : zI} (h : Fr M M') (hM : MD (pD I) M') (h13 : I 8 13 = 0) (g : RM I M) : RM I M' := by
  obtain ⟨g1, g2, g3, g4, g5, g6, g7⟩ := g
  obtain ⟨f1, f2, f3⟩ := h
  refine ⟨?_, ?_, ?_, ?_, SM_Fr ⟨f1, f2, f3⟩ g5, ?_, by rw [f2]; exact g7⟩
  · unfold TXM; rw [f1 70 (by omega), f1 71 (by omega)]; exact g1
  · unfold TXM; rw [f1 70 (by omega), f1 71 (by omega)]; exact g2
  · unfold TXM; rw [f1 70 (by omega), f1 71 (by omega)]; exact g3
  · refine ⟨hM.2.2.1.2.2.2.1, hM.2.2.1.2.2.2.2.1, hM.2.2.1.2.2.2.2.2.trans h13, ?_⟩
    rw [f1 75 (by omega)]
    exact g4.2.2.2
  · unfold SHm
    rw [f1 66 (by omega), f1 67 (by omega), f1 68 (by omega)]
    exact g6
section
variable {xl : Nat} {J : zJ} {I M : zI}
theorem r_readsLines (hR : TXR 2 1001 1 29 9 0 I) (hM : TXM 0 0 2 I M) : ∃ M' : zI, (∀ Q : zQ, Rn (zG xl) 119 0 [.ref 65, .null, .null, .null, .null] [] M J Q = Q (some (.int (sp_fp 1001 1 (I 3) (tn (I 2 3))))) M' J) ∧ M' 65 7 = I 8 0 ∧ (∀ j, j ≠ 7 → M' 65 j = M 65 j) ∧ (∀ k, k < tn (I 8 0) → M' 72 (2 * k) = I 9 k ∧ M' 72 (2 * k + 1) = I 10 k) ∧ ∀ c, c ≠ 65 → c ≠ 72 → M' c = M c := by
  obtain ⟨n1, n2, n3⟩ := TXR_n (by decide) hR
  obtain ⟨h1, h2, h3, h4, h5, h6⟩ := hR
  obtain ⟨m1, m2⟩ := hM
  obtain ⟨f, hq, hp⟩ := m_readsLines (xl := xl) (J := J) (I := M) (l := tn (I 2 3)) (m1.trans h2) h1
  have hfp : mfp (lnO 108 100 116) (M 70) 0 (tn (I 2 3)) = sp_fp 1001 1 (I 3) (tn (I 2 3)) := fp_eq TB_l h4 m2
  rw [hfp] at hp
  refine ⟨zr (zr M 72 f) 65 (upd (M 65) 7 (I 8 0)), fun Q => ?_, ?_, ?_, ?_, ?_⟩
  · rw [hq Q, hfp]
    have e : I 8 0 = nI (if sp_fp 1001 1 (I 3) (tn (I 2 3)) = -1 then (tn (I 2 3) + 1) / 3 else 0) := h5
    rw [e]
  · rw [zr_s, upd_s]
  · intro j hj
    rw [zr_s, upd_n hj]
  · intro k hk
    rw [n3] at hk
    have hk2 := hk
    unfold sp_pn at hk2
    by_cases hz : sp_fp 1001 1 (I 3) (tn (I 2 3)) = -1
    · have hr := hp hz
      obtain ⟨p0, p1, p2, -⟩ := pair_eq (o := 0) (f' := M 70) (show tn (I 2 3) < 1000 by omega) TB_l h4 m2 hk
      have r0 := hr (3 * k) (by omega) (by omega)
      have r1 := hr (3 * k + 1) (by omega) (by omega)
      rw [show 2 * (3 * k / 3) + 3 * k % 3 = 2 * k by omega, show 3 * k % 3 = 0 by omega, nI_0, p1] at r0
      rw [show 2 * ((3 * k + 1) / 3) + (3 * k + 1) % 3 = 2 * k + 1 by omega, show (3 * k + 1) % 3 = 1 by omega, show nI 1 = 1 from rfl, p2] at r1
      rw [zr_n (by decide), zr_s, r0, r1, (h6 k hk).1, (h6 k hk).2]
      exact ⟨rfl, rfl⟩
    · rw [if_neg hz] at hk2
      omega
  · intro c c1 c2
    rw [zr_n c1, zr_n c2]
theorem r_readsReaders (hR : TXR 4 1002 1 17 11 3 I) (hM : TXM 1 48 4 I M) : ∃ M' : zI, (∀ Q : zQ, Rn (zG xl) 121 0 [.ref 65, .null, .null, .null, .null] [] M J Q = Q (some (.int (sp_fp 1002 1 (I 5) (tn (I 4 3))))) M' J) ∧ M' 65 9 = I 8 3 ∧ (∀ j, j ≠ 9 → M' 65 j = M 65 j) ∧ (∀ k, k < tn (I 8 3) → M' 73 (2 * k) = I 11 k ∧ M' 73 (2 * k + 1) = I 12 k) ∧ ∀ c, c ≠ 65 → c ≠ 73 → M' c = M c := by
  obtain ⟨n1, n2, n3⟩ := TXR_n (by decide) hR
  obtain ⟨h1, h2, h3, h4, h5, h6⟩ := hR
  obtain ⟨m1, m2⟩ := hM
  obtain ⟨f, hq, hp⟩ := m_readsReaders (xl := xl) (J := J) (I := M) (l := tn (I 4 3)) (m1.trans h2) h1
  have hfp : mfp (lnO 97 113 111) (M 70) 48 (tn (I 4 3)) = sp_fp 1002 1 (I 5) (tn (I 4 3)) := fp_eq TB_r h4 m2
  rw [hfp] at hp
  refine ⟨zr (zr M 73 f) 65 (upd (M 65) 9 (I 8 3)), fun Q => ?_, ?_, ?_, ?_, ?_⟩
  · rw [hq Q, hfp]
    have e : I 8 3 = nI (if sp_fp 1002 1 (I 5) (tn (I 4 3)) = -1 then (tn (I 4 3) + 1) / 3 else 0) := h5
    rw [e]
  · rw [zr_s, upd_s]
  · intro j hj
    rw [zr_s, upd_n hj]
  · intro k hk
    rw [n3] at hk
    have hk2 := hk
    unfold sp_pn at hk2
    by_cases hz : sp_fp 1002 1 (I 5) (tn (I 4 3)) = -1
    · have hr := hp hz
      obtain ⟨p0, p1, p2, -⟩ := pair_eq (o := 48) (f' := M 70) (show tn (I 4 3) < 1000 by omega) TB_r h4 m2 hk
      have r0 := hr (3 * k) (by omega) (by omega)
      have r1 := hr (3 * k + 1) (by omega) (by omega)
      rw [show 2 * (3 * k / 3) + 3 * k % 3 = 2 * k by omega, show 3 * k % 3 = 0 by omega, nI_0, p1] at r0
      rw [show 2 * ((3 * k + 1) / 3) + (3 * k + 1) % 3 = 2 * k + 1 by omega, show (3 * k + 1) % 3 = 1 by omega, show nI 1 = 1 from rfl, p2] at r1
      rw [zr_n (by decide), zr_s, r0, r1, (h6 k hk).1, (h6 k hk).2]
      exact ⟨rfl, rfl⟩
    · rw [if_neg hz] at hk2
      omega
  · intro c c1 c2
    rw [zr_n c1, zr_n c2]
theorem r_readsShifts (hR : TXR 6 1003 0 47 13 6 I) (hM : TXM 2 96 6 I M) : ∃ M' : zI, (∀ Q : zQ, Rn (zG xl) 123 0 [.ref 65, .null, .null, .null, .null] [] M J Q = Q (some (.int (sp_fp 1003 0 (I 7) (tn (I 6 3))))) M' J) ∧ M' 65 11 = I 8 6 ∧ (∀ j, j ≠ 11 → M' 65 j = M 65 j) ∧ (∀ k, k < tn (I 8 6) → M' 74 (2 * k) = I 13 k ∧ M' 74 (2 * k + 1) = I 14 k) ∧ ∀ c, c ≠ 65 → c ≠ 74 → M' c = M c := by
  obtain ⟨n1, n2, n3⟩ := TXR_n (by decide) hR
  obtain ⟨h1, h2, h3, h4, h5, h6⟩ := hR
  obtain ⟨m1, m2⟩ := hM
  obtain ⟨f, hq, hp⟩ := m_readsShifts (xl := xl) (J := J) (I := M) (l := tn (I 6 3)) (m1.trans h2) h1
  have hfp : mfp (shO) (M 70) 96 (tn (I 6 3)) = sp_fp 1003 0 (I 7) (tn (I 6 3)) := fp_eq TB_s h4 m2
  rw [hfp] at hp
  refine ⟨zr (zr M 74 f) 65 (upd (M 65) 11 (I 8 6)), fun Q => ?_, ?_, ?_, ?_, ?_⟩
  · rw [hq Q, hfp]
    have e : I 8 6 = nI (if sp_fp 1003 0 (I 7) (tn (I 6 3)) = -1 then (tn (I 6 3) + 1) / 3 else 0) := h5
    rw [e]
  · rw [zr_s, upd_s]
  · intro j hj
    rw [zr_s, upd_n hj]
  · intro k hk
    rw [n3] at hk
    have hk2 := hk
    unfold sp_pn at hk2
    by_cases hz : sp_fp 1003 0 (I 7) (tn (I 6 3)) = -1
    · have hr := hp hz
      obtain ⟨p0, p1, p2, -⟩ := pair_eq (o := 96) (f' := M 70) (show tn (I 6 3) < 1000 by omega) TB_s h4 m2 hk
      have r0 := hr (3 * k) (by omega) (by omega)
      have r1 := hr (3 * k + 1) (by omega) (by omega)
      rw [show 2 * (3 * k / 3) + 3 * k % 3 = 2 * k by omega, show 3 * k % 3 = 0 by omega, nI_0, p1] at r0
      rw [show 2 * ((3 * k + 1) / 3) + (3 * k + 1) % 3 = 2 * k + 1 by omega, show (3 * k + 1) % 3 = 1 by omega, show nI 1 = 1 from rfl, p2] at r1
      rw [zr_n (by decide), zr_s, r0, r1, (h6 k hk).1, (h6 k hk).2]
      exact ⟨rfl, rfl⟩
    · rw [if_neg hz] at hk2
      omega
  · intro c c1 c2
    rw [zr_n c1, zr_n c2]
theorem m_find (hC : RP I) (hM : RM I M) : ∃ M' : zI, (∀ Q : zQ, Rn (zG xl) 141 0 [.ref 65] [] M J Q = Q none M' J) ∧ MN (pD I) M' ∧ Fr M M' := by
  obtain ⟨t1, t2, t3, h9, h13, hH⟩ := hC
  obtain ⟨g1, g2, g3, g4, g5, g6, g7⟩ := hM
  obtain ⟨M1, a1, a2, a3, a4, a5⟩ := r_readsLines (xl := xl) (J := J) t1 g1
  have G2 : TXM 1 48 4 I M1 := by unfold TXM; rw [a5 70 (by decide) (by decide), a5 71 (by decide) (by decide)]; exact g2
  obtain ⟨M2, b1, b2, b3, b4, b5⟩ := r_readsReaders (xl := xl) (J := J) t2 G2
  have G3 : TXM 2 96 6 I M2 := by unfold TXM; rw [b5 70 (by decide) (by decide), b5 71 (by decide) (by decide), a5 70 (by decide) (by decide), a5 71 (by decide) (by decide)]; exact g3
  obtain ⟨M3, c1, c2, c3, c4, c5⟩ := r_readsShifts (xl := xl) (J := J) t3 G3
  have k2 : ∀ c, c ≠ 65 → c ≠ 72 → c ≠ 73 → M2 c = M c := fun c q1 q2 q3 => (b5 c q1 q3).trans (a5 c q1 q2)
  have k3 : ∀ c, c ≠ 65 → c ≠ 72 → c ≠ 73 → c ≠ 74 → M3 c = M c := fun c q1 q2 q3 q4 => (c5 c q1 q4).trans (k2 c q1 q2 q3)
  have k65 : ∀ j, j ≠ 7 → j ≠ 9 → j ≠ 11 → M3 65 j = M 65 j := fun j q1 q2 q3 => (c3 j q3).trans ((b3 j q2).trans (a3 j q1))
  have hMD : MD (pD I) M3 := by
    refine ⟨Ag_Pk (pD_ag I) (RP_Pk ⟨t1, t2, t3, h9, h13, hH⟩), hH, ⟨?_, ?_, c2, ?_, ?_, ?_⟩, ?_, ?_, ?_, ?_⟩
    · exact (c3 7 (by decide)).trans ((b3 7 (by decide)).trans a2)
    · exact (c3 9 (by decide)).trans b2
    · exact (k65 13 (by decide) (by decide) (by decide)).trans g4.1
    · exact (k65 14 (by decide) (by decide) (by decide)).trans g4.2.1
    · exact (k65 16 (by decide) (by decide) (by decide)).trans (g4.2.2.1.trans h13.symm)
    · rw [c5 72 (by decide) (by decide), b5 72 (by decide) (by decide)]
      exact a4
    · rw [c5 73 (by decide) (by decide)]
      exact b4
    · exact c4
    · rw [k3 75 (by decide) (by decide) (by decide) (by decide)]
      exact g4.2.2.2
  obtain ⟨M4, l1, l2, l3⟩ := m_livesD (xl := xl) (J := J) hMD
  refine ⟨M4, fun Q => ?_, l2, Fr_lives l3 ⟨fun c hc => k3 c (by omega) (by omega) (by omega) (by omega), k65 4 (by decide) (by decide) (by decide), k65 28 (by decide) (by decide) (by decide)⟩⟩
  simp (disch := first | assumption | omega | (simp (disch := omega) only [zr_n, zr_s]; assumption)) only [x141_0, x141_1, x141_4i, x141_4r, x141_5, x141_6, x141_9i, x141_9r, x141_10, x141_11, x141_14i, x141_14r, x141_15, x141_16, x141_19, gc_65, ↓reduceIte, zkl_i, zkl_r, zkl_n, zkl_z, zkl_l, Option.toList_some, Option.toList_none, List.cons_append, List.nil_append, zcs_0, zcs_i, zcs_l, zcs_r, zle8, true_and, and_true, true_or, or_true, a1, b1, c1, l1]
end

/-! ===== the class takes its texts anew; calls that change something ===== -/
def TW (I : zI) : Prop := (tn (I 2 3) ≤ 29 ∧ I 2 3 = nI (tn (I 2 3)) ∧ I 2 1 = 1 ∧ ∀ j, j < tn (I 2 3) → ixN (I 3 j) 256) ∧ (tn (I 4 3) ≤ 17 ∧ I 4 3 = nI (tn (I 4 3)) ∧ I 4 1 = 1 ∧ ∀ j, j < tn (I 4 3) → ixN (I 5 j) 256) ∧ (tn (I 6 3) ≤ 47 ∧ I 6 3 = nI (tn (I 6 3)) ∧ I 6 1 = 0 ∧ ∀ j, j < tn (I 6 3) → ixN (I 7 j) 256)
theorem RP_TW {I : zI} (h : RP I) : TW I := ⟨⟨h.1.1, h.1.2.1, h.1.2.2.1, h.1.2.2.2.1⟩, ⟨h.2.1.1, h.2.1.2.1, h.2.1.2.2.1, h.2.1.2.2.2.1⟩, ⟨h.2.2.1.1, h.2.2.1.2.1, h.2.2.1.2.2.1, h.2.2.1.2.2.2.1⟩⟩
def pn0 (I : zI) : Nat := sp_pn 1001 1 (I 3) (tn (I 2 3))
def pn1 (I : zI) : Nat := sp_pn 1002 1 (I 5) (tn (I 4 3))
def pn2 (I : zI) : Nat := sp_pn 1003 0 (I 7) (tn (I 6 3))
def ztt (I : zI) : zI := zr (zr (zr (zr (zr (zr (zr (zr (zr I 9 (zro (pn0 I) (sp_hd 1001 (I 3)) (I 9))) 10 (zro (pn0 I) (sp_fg (I 3)) (I 10))) 8 (upd (I 8) 0 (nI (pn0 I)))) 11 (zro (pn1 I) (sp_hd 1002 (I 5)) (I 11))) 12 (zro (pn1 I) (sp_fg (I 5)) (I 12))) 8 (upd (upd (I 8) 0 (nI (pn0 I))) 3 (nI (pn1 I)))) 13 (zro (pn2 I) (sp_hd 1003 (I 7)) (I 13))) 14 (zro (pn2 I) (sp_fg (I 7)) (I 14))) 8 (upd (upd (upd (I 8) 0 (nI (pn0 I))) 3 (nI (pn1 I))) 6 (nI (pn2 I)))
section
variable {xl : Nat} {J : zJ} {I : zI} {Q : zQ}
theorem c_tp_2 (hl : I 2 3 = nI (tn (I 2 3))) (hC : tn (I 2 3) ≤ 29) (h1 : I 2 1 = 1) : Rn (zG xl) 13 0 [.ref 2, .ref 9, .ref 10, .null, .null] [] I J Q = Q (some (.int (nI (sp_pn 1001 1 (I 3) (tn (I 2 3)))))) (zr (zr I 9 (zro (sp_pn 1001 1 (I 3) (tn (I 2 3))) (sp_hd 1001 (I 3)) (I 9))) 10 (zro (sp_pn 1001 1 (I 3) (tn (I 2 3))) (sp_fg (I 3)) (I 10))) J := by
  rw [c_takePairs_2 hl hC, h1]
theorem c_tp_4 (hl : I 4 3 = nI (tn (I 4 3))) (hC : tn (I 4 3) ≤ 17) (h1 : I 4 1 = 1) : Rn (zG xl) 13 0 [.ref 4, .ref 11, .ref 12, .null, .null] [] I J Q = Q (some (.int (nI (sp_pn 1002 1 (I 5) (tn (I 4 3)))))) (zr (zr I 11 (zro (sp_pn 1002 1 (I 5) (tn (I 4 3))) (sp_hd 1002 (I 5)) (I 11))) 12 (zro (sp_pn 1002 1 (I 5) (tn (I 4 3))) (sp_fg (I 5)) (I 12))) J := by
  rw [c_takePairs_4 hl hC, h1]
theorem c_tp_6 (hl : I 6 3 = nI (tn (I 6 3))) (hC : tn (I 6 3) ≤ 47) (h1 : I 6 1 = 0) : Rn (zG xl) 13 0 [.ref 6, .ref 13, .ref 14, .null, .null] [] I J Q = Q (some (.int (nI (sp_pn 1003 0 (I 7) (tn (I 6 3)))))) (zr (zr I 13 (zro (sp_pn 1003 0 (I 7) (tn (I 6 3))) (sp_hd 1003 (I 7)) (I 13))) 14 (zro (sp_pn 1003 0 (I 7) (tn (I 6 3))) (sp_fg (I 7)) (I 14))) J := by
  rw [c_takePairs_6 hl hC, h1]
theorem c_takeTexts (h : TW I) : Rn (zG xl) 12 0 [.ref 8, .ref 2, .ref 4, .ref 6] [] I J Q = Q none (ztt I) J := by
  obtain ⟨⟨a1, a2, a3, -⟩, ⟨b1, b2, b3, -⟩, ⟨c1, c2, c3, -⟩⟩ := h
  simp (disch := first | assumption | omega | (simp (disch := omega) only [zr_n, zr_s]; assumption)) only [x12_0, x12_1, x12_2, x12_3_8, x12_3_28, x12_6, x12_7_8, x12_7_28, x12_10, x12_13_8, x12_13_28, x12_16, x12_17, x12_18, x12_19_8, x12_19_28, x12_22, x12_23_8, x12_23_28, x12_26, x12_29_8, x12_29_28, x12_32, x12_33, x12_34, x12_35_8, x12_35_28, x12_38, x12_39_8, x12_39_28, x12_42, x12_45_8, x12_45_28, x12_48, ↓reduceIte, zkl_i, zkl_r, zkl_n, zkl_z, zkl_l, Option.toList_some, Option.toList_none, List.cons_append, List.nil_append, zcs_0, zcs_i, zcs_l, zcs_r, zle8, true_and, and_true, true_or, or_true, c_tp_2, c_tp_4, c_tp_6, zr_n, zr_s]
  rfl
theorem RP_ztt (h : TW I) (h9 : ixN (I 8 9) 9) (h13 : I 8 13 = 0) (hH : HD I) : RP (ztt I) := by
  obtain ⟨⟨a1, a2, a3, a4⟩, ⟨b1, b2, b3, b4⟩, ⟨c1, c2, c3, c4⟩⟩ := h
  unfold RP TXR HD ztt
  simp (disch := omega) only [zr_n, zr_s, upd_n, upd_s]
  refine ⟨⟨a1, a2, a3, a4, rfl, fun k hk => ?_⟩, ⟨b1, b2, b3, b4, rfl, fun k hk => ?_⟩, ⟨c1, c2, c3, c4, rfl, fun k hk => ?_⟩, h9, h13, hH⟩
  · unfold zro
    rw [if_pos (show k < pn0 I from hk), if_pos (show k < pn0 I from hk)]
    exact ⟨rfl, rfl⟩
  · unfold zro
    rw [if_pos (show k < pn1 I from hk), if_pos (show k < pn1 I from hk)]
    exact ⟨rfl, rfl⟩
  · unfold zro
    rw [if_pos (show k < pn2 I from hk), if_pos (show k < pn2 I from hk)]
    exact ⟨rfl, rfl⟩
theorem pass_RC (h : RP I) : RP (zps 18 8 I) ∧ CN 18 8 (zps 18 8 I) (pD (zps 18 8 I)) := by
  refine ⟨RP_f (fun c hc => zps_f (by omega)) (zps_f (by omega)) h, ?_⟩
  rw [pD_f (fun c c1 c2 => zps_f (by omega)) (zps_f (by omega))]
  exact CN_pass (by decide) (by decide) (RP_CD h)
theorem c_settle (h : TW I) (h9 : ixN (I 8 9) 9) (h13 : I 8 13 = 0) (hH : HD I) : Rn (zG xl) 84 0 [.ref 0] [] I J Q = Q none (zps 18 8 (ztt I)) J := by
  have hp := fun Q => d_pass_18 (xl := xl) (J := J) (Q := Q) (RP_CD (RP_ztt h h9 h13 hH))
  have ht := fun Q => c_takeTexts (xl := xl) (J := J) (Q := Q) h
  simp (disch := first | assumption | omega | (simp (disch := omega) only [zr_n, zr_s]; assumption)) only [x84_0, x84_1_0, x84_4, x84_5_0, x84_8, x84_9, x84_10, x84_11_0, x84_14, x84_15, x84_16, x84_17_0, x84_20, x84_21, x84_22, x84_25, x84_26_0, x84_29, x84_30_0, x84_33, x84_36, br_1, aa_1_0, aa_1_1, aa_1_2, gc_8, gc_18, ↓reduceIte, zkl_i, zkl_r, zkl_n, zkl_z, zkl_l, Option.toList_some, Option.toList_none, List.cons_append, List.nil_append, zcs_0, zcs_i, zcs_l, zcs_r, zle8, true_and, and_true, true_or, or_true, ix3, t0, t12, ht, hp]
theorem ztt_f {c : Nat} (h : c < 8 ∨ 14 < c) : ztt I c = I c := by
  unfold ztt
  simp (disch := omega) only [zr_n]
theorem ztt_8 : ztt I 8 9 = I 8 9 ∧ ztt I 8 13 = I 8 13 ∧ ztt I 8 14 = I 8 14 := by
  unfold ztt
  simp (disch := omega) only [zr_s, upd_n]
  exact ⟨trivial, trivial, trivial⟩
theorem set_f {c : Nat} (h : c < 8 ∨ (14 < c ∧ c < 18) ∨ 27 < c) : zps 18 8 (ztt I) c = I c := by
  rw [zps_f (by omega), ztt_f (by omega)]
theorem set_8 : zps 18 8 (ztt I) 8 9 = I 8 9 ∧ zps 18 8 (ztt I) 8 13 = I 8 13 ∧ zps 18 8 (ztt I) 8 14 = I 8 14 := by
  rw [zps_f (by omega)]
  exact ztt_8
end
theorem mkU {xl y z : Nat} {L1 L2 : List Value} {I I1 : zI} {J : zJ} {v : Int32} (hI : Inv I) (hc : ∀ Q : zQ, Rn (zG xl) y 0 L1 [] I J Q = Q (some (.int v)) I1 J) (hr : RC I1) (hk : ∀ c, 65 ≤ c → I1 c = I c) (hm : ∀ (M : zI) (J : zJ), RM I M → ∃ M' : zI, (∀ Q : zQ, Rn (zG xl) z 0 L2 [] M J Q = Q (some (.int v)) M' J) ∧ RM I1 M' ∧ ∀ c, c < 65 ∨ 88 < c → M' c = M c) : KI xl y z L1 L2 I J := by
  obtain ⟨M', m1, m2, m3⟩ := hm I1 J (RM_65 (fun c c1 c2 => hk c c1) hI.2)
  exact ⟨v, I1, M', J, hc, m1, ⟨RC_f (fun c hc => m3 c (by omega)) (m3 1000 (by omega)) hr, RM_c (fun c hc => m3 c (by omega)) m2⟩, (m3 1004 (by omega)).trans (hk 1004 (by omega)), (m3 1000 (by omega)).trans (hk 1000 (by omega)), hk 1004 (by omega)⟩
theorem RC_set {I X : zI} (h : RC I) (hT : TW X) (h8 : X 8 = I 8) (hH : X 1000 = I 1000) (hs : ∀ c, 47 < c → c < 61 → X c = I c) : RC (zps 18 8 (ztt X)) := by
  have hR : RP (ztt X) := RP_ztt hT (by rw [h8]; exact h.1.2.2.2.1) (by rw [h8]; exact h.1.2.2.2.2.1) (by unfold HD; rw [hH]; exact h.1.2.2.2.2.2)
  obtain ⟨r1, r2⟩ := pass_RC hR
  refine ⟨r1, ?_, fun s hs2 => ?_, r2⟩
  · unfold SG
    rw [set_f (by omega), set_f (by omega), hs 48 (by omega) (by omega), hs 50 (by omega) (by omega)]
    exact h.2.1
  · rw [set_f (by omega), hs (53 + 2 * s) (by omega) (by omega)]
    exact h.2.2.1 s hs2
theorem RM_set {I X M M' : zI} (g : RM I M) (t0 : TXM 0 0 2 X M') (t1 : TXM 1 48 4 X M') (t2 : TXM 2 96 6 X M') (h8 : X 8 = I 8) (hs : ∀ c, c = 0 ∨ (14 < c ∧ c < 18) ∨ (47 < c ∧ c < 61) → X c = I c) (hm : ∀ c, 65 ≤ c → c ≠ 70 → c ≠ 71 → M' c = M c) : RM (zps 18 8 (ztt X)) M' := by
  obtain ⟨g1, g2, g3, g4, g5, g6, g7⟩ := g
  unfold TXM at t0 t1 t2
  unfold RM TXM EVm SM SHm at *
  obtain ⟨s9, s13, s14⟩ := set_8 (I := X)
  rw [set_f (c := 2) (by omega), set_f (c := 2 + 1) (by omega), set_f (c := 4) (by omega), set_f (c := 4 + 1) (by omega), set_f (c := 6) (by omega), set_f (c := 6 + 1) (by omega), s9, s14, set_f (c := 15) (by omega), set_f (c := 16) (by omega), set_f (c := 17) (by omega), set_f (c := 48) (by omega), set_f (c := 49) (by omega), set_f (c := 50) (by omega), set_f (c := 51) (by omega), set_f (c := 0) (by omega), h8, hs 15 (by omega), hs 16 (by omega), hs 17 (by omega), hs 48 (by omega), hs 49 (by omega), hs 50 (by omega), hs 51 (by omega), hs 0 (by omega), hm 65 (by omega) (by omega) (by omega), hm 66 (by omega) (by omega) (by omega), hm 67 (by omega) (by omega) (by omega), hm 68 (by omega) (by omega) (by omega), hm 75 (by omega) (by omega) (by omega), hm 87 (by omega) (by omega) (by omega)]
  refine ⟨t0, t1, t2, g4, g5, fun s hs2 => ?_, g7⟩
  rw [set_f (c := 53 + 2 * s) (by omega), set_f (c := 54 + 2 * s) (by omega), hs (53 + 2 * s) (by omega), hs (54 + 2 * s) (by omega)]
  exact g6 s hs2
theorem c4n : Int32.ofNat 29 = nI 29 ∧ Int32.ofNat 17 = nI 17 ∧ Int32.ofNat 47 = nI 47 := ⟨rfl, rfl, rfl⟩
theorem ne_29 {k : Nat} (h : k < 2 ^ 31) : (nI k = 29) = (k = 29) := propext (nI_eq h (by decide))
theorem ne_17 {k : Nat} (h : k < 2 ^ 31) : (nI k = 17) = (k = 17) := propext (nI_eq h (by decide))
theorem ne_47 {k : Nat} (h : k < 2 ^ 31) : (nI k = 47) = (k = 47) := propext (nI_eq h (by decide))
theorem nlt_256 {k : Nat} (h : k < 2 ^ 31) : (nI k < 256) = (k < 256) := propext (nI_ltI h (by decide))
theorem z012 : (nI 0 = 0) = True ∧ (nI 1 = 0) = False ∧ (nI 1 = 1) = True ∧ (nI 2 = 0) = False ∧ (nI 2 = 1) = False := by decide
theorem TXM_chg {t o T l : Nat} {X M' I M : zI} {b : Int32} (hT : X T 3 = nI (l + 1)) (hb : X (T + 1) = upd (I (T + 1)) l b) (hl : tn (I T 3) = l) (hll : l < 1000) (old : TXM t o T I M) (h71 : M' 71 t = nI (l + 1)) (h70 : M' 70 = upd (M 70) (o + l) b) : TXM t o T X M' := by
  refine ⟨h71.trans hT.symm, fun j hj => ?_⟩
  rw [hT, tn, nI_clamp (by omega)] at hj
  rw [h70, hb]
  by_cases e : j = l
  · subst e; rw [upd_s, upd_s]
  · rw [upd_n (by omega), upd_n e]
    exact old.2 j (by omega)
theorem TXM_cut {t o T l : Nat} {X M' I M : zI} (hT : X T 3 = nI l) (hb : X (T + 1) = I (T + 1)) (hl : l ≤ tn (I T 3)) (hll : l < 1000) (old : TXM t o T I M) (h71 : M' 71 t = nI l) (h70 : M' 70 = M 70) : TXM t o T X M' := by
  refine ⟨h71.trans hT.symm, fun j hj => ?_⟩
  rw [hT, tn, nI_clamp (by omega)] at hj
  rw [h70, hb]
  exact old.2 j (by omega)
theorem TXM_same {t o T : Nat} {X M' I M : zI} (hT : X T = I T) (hb : X (T + 1) = I (T + 1)) (old : TXM t o T I M) (h71 : M' 71 t = M 71 t) (h70 : ∀ j, j < tn (I T 3) → M' 70 (o + j) = M 70 (o + j)) : TXM t o T X M' := by
  unfold TXM
  rw [hT, hb, h71]
  exact ⟨old.1, fun j hj => (h70 j hj).trans (old.2 j hj)⟩
theorem nlt_3' {k : Nat} (h : k < 3) : k = 0 ∨ k = 1 ∨ k = 2 := by omega
section
variable {xl : Nat} {J : zJ} {I : zI} {a b : Int32}
theorem k_type_2 {q : Nat} (h : Inv I) (hq : q < 256) : KI xl 37 114 [.ref 0, .int (nI 0), .int (nI q), .null] [.ref 65, .int (nI 0), .int (nI q)] I J := by
  have hc1 : (if nI 0 < 0 then (0 : Int32) else if nI 0 < 3 then 1 else 0) = 1 := bl1 (n := 3) (by decide) (by decide)
  have hc2 : (if nI q < 0 then (0 : Int32) else if nI q < 256 then 1 else 0) = 1 := bl1 (n := 256) hq (by decide)
  have hr1 : bt (nI 0) 0 2 = 1 := in1 (m := 2) (by decide) (by decide)
  have hr2 : (if nI q < 0 then (0 : Int32) else if 255 < nI q then 0 else 1) = 1 := in1 (m := 255) (by omega) (by decide)
  have hTW := RP_TW h.1.1
  have hlen : tn (I 2 3) ≤ 29 ∧ I 2 3 = nI (tn (I 2 3)) := by
    obtain ⟨⟨a1, a2, a3, a4⟩, ⟨b1, b2, b3, b4⟩, ⟨c1, c2, c3, c4⟩⟩ := hTW
    first | exact ⟨a1, a2⟩ | exact ⟨b1, b2⟩ | exact ⟨c1, c2⟩
  obtain ⟨hl1, hl2⟩ := hlen
  generalize hl : tn (I 2 3) = l at hl1 hl2
  have k1 : ¬ zkd (zG xl) 3 = 99 := by rw [ak_3]; decide
  by_cases hf : l < 29
  · have hX : TW (zr (zr I 3 (upd (I 3) l (nI q))) 2 (upd (I 2) 3 (nI (l + 1)))) := by
      obtain ⟨⟨a1, a2, a3, a4⟩, ⟨b1, b2, b3, b4⟩, ⟨c1, c2, c3, c4⟩⟩ := hTW
      have tl : tn (nI (l + 1)) = l + 1 := nI_clamp (by omega)
      have by' : ∀ j, j < l + 1 → ixN (upd (I 3) l (nI q) j) 256 := by
        intro j hj
        by_cases e : j = l
        · subst e; rw [upd_s, ixN_nI hq (by decide)]; trivial
        · rw [upd_n e]
          first | exact a4 j (by omega) | exact b4 j (by omega) | exact c4 j (by omega)
      unfold TW
      simp (disch := omega) only [zr_n, zr_s, upd_n, upd_s, tl]
      first | exact ⟨⟨by omega, trivial, a3, by'⟩, ⟨b1, b2, b3, b4⟩, ⟨c1, c2, c3, c4⟩⟩ | exact ⟨⟨a1, a2, a3, a4⟩, ⟨by omega, trivial, b3, by'⟩, ⟨c1, c2, c3, c4⟩⟩ | exact ⟨⟨a1, a2, a3, a4⟩, ⟨b1, b2, b3, b4⟩, ⟨by omega, trivial, c3, by'⟩⟩
    have h8 : zr (zr I 3 (upd (I 3) l (nI q))) 2 (upd (I 2) 3 (nI (l + 1))) 8 = I 8 := by simp (disch := omega) only [zr_n]
    have h1000 : zr (zr I 3 (upd (I 3) l (nI q))) 2 (upd (I 2) 3 (nI (l + 1))) 1000 = I 1000 := by simp (disch := omega) only [zr_n]
    have hst := fun Q => c_settle (xl := xl) (J := J) (Q := Q) hX (by rw [h8]; exact h.1.1.2.2.2.1) (by rw [h8]; exact h.1.1.2.2.2.2.1) (by unfold HD; rw [h1000]; exact h.1.1.2.2.2.2.2)
    refine mkU (v := nI (l + 1)) (I1 := zps 18 8 (ztt (zr (zr I 3 (upd (I 3) l (nI q))) 2 (upd (I 2) 3 (nI (l + 1)))))) h (fun Q => ?_) (RC_set h.1 hX h8 h1000 (fun c c1 c2 => by simp (disch := omega) only [zr_n])) (fun c hc => by rw [set_f (by omega)]; simp (disch := omega) only [zr_n]) (fun M J hM => ?_)
    · have e3 : zps 18 8 (ztt (zr (zr I 3 (upd (I 3) l (nI q))) 2 (upd (I 2) 3 (nI (l + 1))))) 2 3 = nI (l + 1) := by
        rw [set_f (by omega), zr_s, upd_s]
      simp (disch := first | assumption | omega | (simp (disch := omega) only [zr_n, zr_s]; assumption)) only [x37_0, x37_1, x37_2, x37_5, x37_8, x37_9, x37_12, x37_15, x37_18, x37_20, x37_21, x37_22_0, x37_25, x37_26, x37_27, x37_28, x37_29_2, x37_29_4, x37_29_6, x37_32, x37_33_2, x37_33_4, x37_33_6, x37_36, x37_37, x37_40, x37_42, x37_43, x37_44_2, x37_44_4, x37_44_6, x37_47, x37_48_2, x37_48_4, x37_48_6, x37_51, x37_52, x37_53, x37_54i, x37_54r, x37_55_2, x37_55_4, x37_55_6, x37_58, x37_59, x37_60_2, x37_60_4, x37_60_6, x37_63, x37_64, x37_67, x37_68_2, x37_68_4, x37_68_6, x37_71, gc_0, br_1, aa_1_0, aa_1_1, aa_1_2, gc_2, bi_3, bs_3, ↓reduceIte, zkl_i, zkl_r, zkl_n, zkl_z, zkl_l, Option.toList_some, Option.toList_none, List.cons_append, List.nil_append, zcs_0, zcs_i, zcs_l, zcs_r, zle8, true_and, and_true, true_or, or_true, c_below, hc1, hc2, i1_0, if_false, ixN_nI, nI_clamp, k1, not_false_eq_true, al_3, c4n, hl2, nI_ltI, hf, if_true, zr_n, na_1, hst, e3]
    · have hM0 := hM
      have hm1 : M 71 0 = nI l := hM.1.1.trans hl2
      refine ⟨zr (zr M 70 (upd (M 70) (0 + l) (nI q))) 71 (upd (M 71) 0 (nI (l + 1))), fun Q => ?_, ?_, fun c hc => by simp (disch := omega) only [zr_n]⟩
      · have hne : ¬ l = 29 := by omega
        simp (disch := first | assumption | omega | (simp (disch := omega) only [zr_n, zr_s]; assumption)) only [x114_0, x114_1, x114_4, x114_7, x114_8, x114_9, x114_10, x114_13, x114_16, x114_19, x114_21, x114_22, x114_23_65, x114_26, x114_27, x114_28, x114_29, x114_32, x114_34, x114_37, x114_38, x114_39, x114_42, x114_44, x114_47, x114_49, x114_52, x114_54, x114_55, x114_56_65, x114_59, x114_61, x114_62, x114_63, x114_64_65, x114_67, x114_68, x114_69, x114_70, x114_71, x114_72, x114_73_65, x114_76, x114_77, x114_78, x114_79, x114_80, x114_81, x114_82, x114_83_65, x114_86, x114_87, x114_88, bi_70, bs_70, bi_71, bs_71, ↓reduceIte, zkl_i, zkl_r, zkl_n, zkl_z, zkl_l, Option.toList_some, Option.toList_none, List.cons_append, List.nil_append, zcs_0, zcs_i, zcs_l, zcs_r, zle8, true_and, and_true, true_or, or_true, m_isText, hr1, i1_0, if_false, m_in, k64_0, k64_255, i64_lt, hr2, ixN_nI, nI_clamp, z012, if_true, hm1, ne_29, ne_17, ne_47, hne, nm_48, nI_add, zr_n, zr_s, upd_s, na_1]
      · obtain ⟨⟨a1, a2, a3, a4⟩, ⟨b1, b2, b3, b4⟩, ⟨c1, c2, c3, c4⟩⟩ := hTW
        obtain ⟨m0, m1, m2, -⟩ := hM
        have e71 : ∀ t, t ≠ 0 → zr (zr M 70 (upd (M 70) (0 + l) (nI q))) 71 (upd (M 71) 0 (nI (l + 1))) 71 t = M 71 t := fun t ht => by rw [zr_s, upd_n ht]
        have e70 : zr (zr M 70 (upd (M 70) (0 + l) (nI q))) 71 (upd (M 71) 0 (nI (l + 1))) 70 = upd (M 70) (0 + l) (nI q) := by rw [zr_n (by decide), zr_s]
        have e71y : zr (zr M 70 (upd (M 70) (0 + l) (nI q))) 71 (upd (M 71) 0 (nI (l + 1))) 71 0 = nI (l + 1) := by rw [zr_s, upd_s]
        refine RM_set (X := zr (zr I 3 (upd (I 3) l (nI q))) 2 (upd (I 2) 3 (nI (l + 1)))) hM0 ?_ ?_ ?_ h8 (fun c hc => by simp (disch := omega) only [zr_n]) (fun c c1 c2 c3 => by simp (disch := omega) only [zr_n])
        · first
            | exact TXM_chg (by rw [zr_s, upd_s]) (by rw [zr_n (by decide), zr_s]) hl (by omega) m0 e71y e70
            | exact TXM_same (by simp (disch := omega) only [zr_n]) (by simp (disch := omega) only [zr_n]) m0 (e71 _ (by decide)) (fun j hj => by rw [e70, upd_n (by omega)])
        · first
            | exact TXM_chg (by rw [zr_s, upd_s]) (by rw [zr_n (by decide), zr_s]) hl (by omega) m1 e71y e70
            | exact TXM_same (by simp (disch := omega) only [zr_n]) (by simp (disch := omega) only [zr_n]) m1 (e71 _ (by decide)) (fun j hj => by rw [e70, upd_n (by omega)])
        · first
            | exact TXM_chg (by rw [zr_s, upd_s]) (by rw [zr_n (by decide), zr_s]) hl (by omega) m2 e71y e70
            | exact TXM_same (by simp (disch := omega) only [zr_n]) (by simp (disch := omega) only [zr_n]) m2 (e71 _ (by decide)) (fun j hj => by rw [e70, upd_n (by omega)])
  · have hC : l = 29 := by omega
    refine mkI (v := -4) (I1 := I) (J1 := J) h (fun Q => ?_) (Tr_refl I) (fun M J hM => ⟨M, fun Q => ?_, hM, Fr_refl M⟩)
    · simp (disch := first | assumption | omega | (simp (disch := omega) only [zr_n, zr_s]; assumption)) only [x37_0, x37_1, x37_2, x37_5, x37_8, x37_9, x37_12, x37_15, x37_18, x37_20, x37_21, x37_22_0, x37_25, x37_26, x37_27, x37_28, x37_29_2, x37_29_4, x37_29_6, x37_32, x37_33_2, x37_33_4, x37_33_6, x37_36, x37_37, x37_40, x37_42, x37_43, x37_44_2, x37_44_4, x37_44_6, x37_47, x37_48_2, x37_48_4, x37_48_6, x37_51, x37_52, x37_53, x37_54i, x37_54r, x37_55_2, x37_55_4, x37_55_6, x37_58, x37_59, x37_60_2, x37_60_4, x37_60_6, x37_63, x37_64, x37_67, x37_68_2, x37_68_4, x37_68_6, x37_71, gc_0, br_1, aa_1_0, aa_1_1, aa_1_2, gc_2, bi_3, bs_3, ↓reduceIte, zkl_i, zkl_r, zkl_n, zkl_z, zkl_l, Option.toList_some, Option.toList_none, List.cons_append, List.nil_append, zcs_0, zcs_i, zcs_l, zcs_r, zle8, true_and, and_true, true_or, or_true, c_below, hc1, hc2, i1_0, if_false, ixN_nI, nI_clamp, k1, not_false_eq_true, al_3, c4n, hl2, nI_ltI, hf]
    · have hm1 : M 71 0 = nI l := hM.1.1.trans hl2
      simp (disch := first | assumption | omega | (simp (disch := omega) only [zr_n, zr_s]; assumption)) only [x114_0, x114_1, x114_4, x114_7, x114_8, x114_9, x114_10, x114_13, x114_16, x114_19, x114_21, x114_22, x114_23_65, x114_26, x114_27, x114_28, x114_29, x114_32, x114_34, x114_37, x114_38, x114_39, x114_42, x114_44, x114_47, x114_49, x114_52, x114_54, x114_55, x114_56_65, x114_59, x114_61, x114_62, x114_63, x114_64_65, x114_67, x114_68, x114_69, x114_70, x114_71, x114_72, x114_73_65, x114_76, x114_77, x114_78, x114_79, x114_80, x114_81, x114_82, x114_83_65, x114_86, x114_87, x114_88, bi_70, bs_70, bi_71, bs_71, ↓reduceIte, zkl_i, zkl_r, zkl_n, zkl_z, zkl_l, Option.toList_some, Option.toList_none, List.cons_append, List.nil_append, zcs_0, zcs_i, zcs_l, zcs_r, zle8, true_and, and_true, true_or, or_true, m_isText, hr1, i1_0, if_false, m_in, k64_0, k64_255, i64_lt, hr2, ixN_nI, nI_clamp, z012, if_true, hm1, ne_29, ne_17, ne_47, hC]
theorem k_wipe_2 (h : Inv I) : KI xl 38 115 [.ref 0, .int (nI 0), .null] [.ref 65, .int (nI 0), .null] I J := by
  have hc1 : (if nI 0 < 0 then (0 : Int32) else if nI 0 < 3 then 1 else 0) = 1 := bl1 (n := 3) (by decide) (by decide)
  have hr1 : bt (nI 0) 0 2 = 1 := in1 (m := 2) (by decide) (by decide)
  have hTW := RP_TW h.1.1
  have tl : tn (0 : Int32) = 0 := t0
  have hX : TW (zr I 2 (upd (I 2) 3 0)) := by
    obtain ⟨⟨a1, a2, a3, a4⟩, ⟨b1, b2, b3, b4⟩, ⟨c1, c2, c3, c4⟩⟩ := hTW
    unfold TW
    simp (disch := omega) only [zr_n, zr_s, upd_n, upd_s, tl]
    first | exact ⟨⟨by omega, by decide, a3, fun j hj => by omega⟩, ⟨b1, b2, b3, b4⟩, ⟨c1, c2, c3, c4⟩⟩ | exact ⟨⟨a1, a2, a3, a4⟩, ⟨by omega, by decide, b3, fun j hj => by omega⟩, ⟨c1, c2, c3, c4⟩⟩ | exact ⟨⟨a1, a2, a3, a4⟩, ⟨b1, b2, b3, b4⟩, ⟨by omega, by decide, c3, fun j hj => by omega⟩⟩
  have h8 : zr I 2 (upd (I 2) 3 0) 8 = I 8 := by simp (disch := omega) only [zr_n]
  have h1000 : zr I 2 (upd (I 2) 3 0) 1000 = I 1000 := by simp (disch := omega) only [zr_n]
  have hst := fun Q => c_settle (xl := xl) (J := J) (Q := Q) hX (by rw [h8]; exact h.1.1.2.2.2.1) (by rw [h8]; exact h.1.1.2.2.2.2.1) (by unfold HD; rw [h1000]; exact h.1.1.2.2.2.2.2)
  refine mkU (v := I 2 3) (I1 := zps 18 8 (ztt (zr I 2 (upd (I 2) 3 0)))) h (fun Q => ?_) (RC_set h.1 hX h8 h1000 (fun c c1 c2 => by simp (disch := omega) only [zr_n])) (fun c hc => by rw [set_f (by omega)]; simp (disch := omega) only [zr_n]) (fun M J hM => ?_)
  · simp (disch := first | assumption | omega | (simp (disch := omega) only [zr_n, zr_s]; assumption)) only [x38_0, x38_1, x38_2, x38_5, x38_8, x38_10, x38_11, x38_12_0, x38_15, x38_16, x38_17_2, x38_17_4, x38_17_6, x38_20, x38_21, x38_22_0, x38_25, x38_26, x38_27, x38_28_2, x38_28_4, x38_28_6, x38_31, x38_32, x38_35, x38_36, gc_0, br_1, aa_1_0, aa_1_1, aa_1_2, gc_2, ↓reduceIte, zkl_i, zkl_r, zkl_n, zkl_z, zkl_l, Option.toList_some, Option.toList_none, List.cons_append, List.nil_append, zcs_0, zcs_i, zcs_l, zcs_r, zle8, true_and, and_true, true_or, or_true, c_below, hc1, i1_0, if_false, ixN_nI, nI_clamp, hst]
  · have hM0 := hM
    have hm1 : M 71 0 = I 2 3 := hM.1.1
    refine ⟨zr M 71 (upd (M 71) 0 0), fun Q => ?_, ?_, fun c hc => by simp (disch := omega) only [zr_n]⟩
    · simp (disch := first | assumption | omega | (simp (disch := omega) only [zr_n, zr_s]; assumption)) only [x115_0, x115_1, x115_4, x115_7, x115_9, x115_10, x115_11_65, x115_14, x115_15, x115_16, x115_17, x115_18_65, x115_21, x115_22, x115_23, x115_24, x115_25, bi_71, bs_71, ↓reduceIte, zkl_i, zkl_r, zkl_n, zkl_z, zkl_l, Option.toList_some, Option.toList_none, List.cons_append, List.nil_append, zcs_0, zcs_i, zcs_l, zcs_r, zle8, true_and, and_true, true_or, or_true, m_isText, hr1, i1_0, if_false, ixN_nI, nI_clamp, hm1]
    · obtain ⟨m0, m1, m2, -⟩ := hM
      have e71 : ∀ t, t ≠ 0 → zr M 71 (upd (M 71) 0 0) 71 t = M 71 t := fun t ht => by rw [zr_s, upd_n ht]
      have e70 : zr M 71 (upd (M 71) 0 0) 70 = M 70 := by rw [zr_n (by decide)]
      have e71y : zr M 71 (upd (M 71) 0 0) 71 0 = nI 0 := by rw [zr_s, upd_s]; rfl
      refine RM_set (X := zr I 2 (upd (I 2) 3 0)) hM0 ?_ ?_ ?_ h8 (fun c hc => by simp (disch := omega) only [zr_n]) (fun c c1 c2 c3 => by simp (disch := omega) only [zr_n])
      · first
          | exact TXM_cut (l := 0) (by rw [zr_s, upd_s]; rfl) (by rw [zr_n (by decide)]) (by omega) (by omega) m0 e71y e70
          | exact TXM_same (by simp (disch := omega) only [zr_n]) (by simp (disch := omega) only [zr_n]) m0 (e71 _ (by decide)) (fun j hj => by rw [e70])
      · first
          | exact TXM_cut (l := 0) (by rw [zr_s, upd_s]; rfl) (by rw [zr_n (by decide)]) (by omega) (by omega) m1 e71y e70
          | exact TXM_same (by simp (disch := omega) only [zr_n]) (by simp (disch := omega) only [zr_n]) m1 (e71 _ (by decide)) (fun j hj => by rw [e70])
      · first
          | exact TXM_cut (l := 0) (by rw [zr_s, upd_s]; rfl) (by rw [zr_n (by decide)]) (by omega) (by omega) m2 e71y e70
          | exact TXM_same (by simp (disch := omega) only [zr_n]) (by simp (disch := omega) only [zr_n]) m2 (e71 _ (by decide)) (fun j hj => by rw [e70])
theorem k_undo_2 (h : Inv I) : KI xl 39 116 [.ref 0, .int (nI 0), .null] [.ref 65, .int (nI 0)] I J := by
  have hc1 : (if nI 0 < 0 then (0 : Int32) else if nI 0 < 3 then 1 else 0) = 1 := bl1 (n := 3) (by decide) (by decide)
  have hr1 : bt (nI 0) 0 2 = 1 := in1 (m := 2) (by decide) (by decide)
  have hTW := RP_TW h.1.1
  have hlen : tn (I 2 3) ≤ 29 ∧ I 2 3 = nI (tn (I 2 3)) := by
    obtain ⟨⟨a1, a2, a3, a4⟩, ⟨b1, b2, b3, b4⟩, ⟨c1, c2, c3, c4⟩⟩ := hTW
    first | exact ⟨a1, a2⟩ | exact ⟨b1, b2⟩ | exact ⟨c1, c2⟩
  obtain ⟨hl1, hl2⟩ := hlen
  generalize hl : tn (I 2 3) = l at hl1 hl2
  by_cases hz : l = 0
  · refine mkI (v := -3) (I1 := I) (J1 := J) h (fun Q => ?_) (Tr_refl I) (fun M J hM => ⟨M, fun Q => ?_, hM, Fr_refl M⟩)
    · have hz0 : I 2 3 = 0 := by rw [hl2, hz]; rfl
      simp (disch := first | assumption | omega | (simp (disch := omega) only [zr_n, zr_s]; assumption)) only [x39_0, x39_1, x39_2, x39_5, x39_8, x39_10, x39_11, x39_12_0, x39_15, x39_16, x39_17, x39_18, x39_19_2, x39_19_4, x39_19_6, x39_22, x39_25, x39_27, x39_28, x39_29i, x39_29r, x39_30_2, x39_30_4, x39_30_6, x39_33, x39_34, x39_35_2, x39_35_4, x39_35_6, x39_38, x39_39, x39_42, x39_43_2, x39_43_4, x39_43_6, x39_46, gc_0, br_1, aa_1_0, aa_1_1, aa_1_2, gc_2, ↓reduceIte, zkl_i, zkl_r, zkl_n, zkl_z, zkl_l, Option.toList_some, Option.toList_none, List.cons_append, List.nil_append, zcs_0, zcs_i, zcs_l, zcs_r, zle8, true_and, and_true, true_or, or_true, c_below, hc1, i1_0, if_false, ixN_nI, nI_clamp, hz0, if_true]
    · have hm1 : M 71 0 = 0 := by rw [hM.1.1, hl2, hz]; rfl
      simp (disch := first | assumption | omega | (simp (disch := omega) only [zr_n, zr_s]; assumption)) only [x116_0, x116_1, x116_4, x116_7, x116_9, x116_10, x116_11_65, x116_14, x116_15, x116_16, x116_19, x116_21, x116_22, x116_23_65, x116_26, x116_27, x116_28, x116_29, x116_30, x116_31, x116_32, x116_33_65, x116_36, x116_37, x116_38, bi_71, bs_71, ↓reduceIte, zkl_i, zkl_r, zkl_n, zkl_z, zkl_l, Option.toList_some, Option.toList_none, List.cons_append, List.nil_append, zcs_0, zcs_i, zcs_l, zcs_r, zle8, true_and, and_true, true_or, or_true, m_isText, hr1, i1_0, if_false, ixN_nI, nI_clamp, hm1, if_true]
  · obtain ⟨d, rfl⟩ : ∃ d, l = d + 1 := ⟨l - 1, by omega⟩
    have hX : TW (zr I 2 (upd (I 2) 3 (nI d))) := by
      obtain ⟨⟨a1, a2, a3, a4⟩, ⟨b1, b2, b3, b4⟩, ⟨c1, c2, c3, c4⟩⟩ := hTW
      have tl : tn (nI d) = d := nI_clamp (by omega)
      unfold TW
      simp (disch := omega) only [zr_n, zr_s, upd_n, upd_s, tl]
      first | exact ⟨⟨by omega, trivial, a3, fun j hj => a4 j (by omega)⟩, ⟨b1, b2, b3, b4⟩, ⟨c1, c2, c3, c4⟩⟩ | exact ⟨⟨a1, a2, a3, a4⟩, ⟨by omega, trivial, b3, fun j hj => b4 j (by omega)⟩, ⟨c1, c2, c3, c4⟩⟩ | exact ⟨⟨a1, a2, a3, a4⟩, ⟨b1, b2, b3, b4⟩, ⟨by omega, trivial, c3, fun j hj => c4 j (by omega)⟩⟩
    have h8 : zr I 2 (upd (I 2) 3 (nI d)) 8 = I 8 := by simp (disch := omega) only [zr_n]
    have h1000 : zr I 2 (upd (I 2) 3 (nI d)) 1000 = I 1000 := by simp (disch := omega) only [zr_n]
    have hst := fun Q => c_settle (xl := xl) (J := J) (Q := Q) hX (by rw [h8]; exact h.1.1.2.2.2.1) (by rw [h8]; exact h.1.1.2.2.2.2.1) (by unfold HD; rw [h1000]; exact h.1.1.2.2.2.2.2)
    have nz : ¬ nI (d + 1) = 0 := nI_ne0 (by omega) (by omega)
    refine mkU (v := nI d) (I1 := zps 18 8 (ztt (zr I 2 (upd (I 2) 3 (nI d))))) h (fun Q => ?_) (RC_set h.1 hX h8 h1000 (fun c c1 c2 => by simp (disch := omega) only [zr_n])) (fun c hc => by rw [set_f (by omega)]; simp (disch := omega) only [zr_n]) (fun M J hM => ?_)
    · have e3 : zps 18 8 (ztt (zr I 2 (upd (I 2) 3 (nI d)))) 2 3 = nI d := by
        rw [set_f (by omega), zr_s, upd_s]
      simp (disch := first | assumption | omega | (simp (disch := omega) only [zr_n, zr_s]; assumption)) only [x39_0, x39_1, x39_2, x39_5, x39_8, x39_10, x39_11, x39_12_0, x39_15, x39_16, x39_17, x39_18, x39_19_2, x39_19_4, x39_19_6, x39_22, x39_25, x39_27, x39_28, x39_29i, x39_29r, x39_30_2, x39_30_4, x39_30_6, x39_33, x39_34, x39_35_2, x39_35_4, x39_35_6, x39_38, x39_39, x39_42, x39_43_2, x39_43_4, x39_43_6, x39_46, gc_0, br_1, aa_1_0, aa_1_1, aa_1_2, gc_2, ↓reduceIte, zkl_i, zkl_r, zkl_n, zkl_z, zkl_l, Option.toList_some, Option.toList_none, List.cons_append, List.nil_append, zcs_0, zcs_i, zcs_l, zcs_r, zle8, true_and, and_true, true_or, or_true, c_below, hc1, i1_0, if_false, ixN_nI, nI_clamp, hl2, nz, nI_pred, hst, e3]
    · have hM0 := hM
      have hm1 : M 71 0 = nI (d + 1) := hM.1.1.trans hl2
      refine ⟨zr M 71 (upd (M 71) 0 (nI d)), fun Q => ?_, ?_, fun c hc => by simp (disch := omega) only [zr_n]⟩
      · simp (disch := first | assumption | omega | (simp (disch := omega) only [zr_n, zr_s]; assumption)) only [x116_0, x116_1, x116_4, x116_7, x116_9, x116_10, x116_11_65, x116_14, x116_15, x116_16, x116_19, x116_21, x116_22, x116_23_65, x116_26, x116_27, x116_28, x116_29, x116_30, x116_31, x116_32, x116_33_65, x116_36, x116_37, x116_38, bi_71, bs_71, ↓reduceIte, zkl_i, zkl_r, zkl_n, zkl_z, zkl_l, Option.toList_some, Option.toList_none, List.cons_append, List.nil_append, zcs_0, zcs_i, zcs_l, zcs_r, zle8, true_and, and_true, true_or, or_true, m_isText, hr1, i1_0, if_false, ixN_nI, nI_clamp, hm1, nz, nI_pred, zr_s, upd_s]
      · obtain ⟨m0, m1, m2, -⟩ := hM
        have e71 : ∀ t, t ≠ 0 → zr M 71 (upd (M 71) 0 (nI d)) 71 t = M 71 t := fun t ht => by rw [zr_s, upd_n ht]
        have e70 : zr M 71 (upd (M 71) 0 (nI d)) 70 = M 70 := by rw [zr_n (by decide)]
        have e71y : zr M 71 (upd (M 71) 0 (nI d)) 71 0 = nI d := by rw [zr_s, upd_s]
        refine RM_set (X := zr I 2 (upd (I 2) 3 (nI d))) hM0 ?_ ?_ ?_ h8 (fun c hc => by simp (disch := omega) only [zr_n]) (fun c c1 c2 c3 => by simp (disch := omega) only [zr_n])
        · first
            | exact TXM_cut (l := d) (by rw [zr_s, upd_s]) (by rw [zr_n (by decide)]) (by omega) (by omega) m0 e71y e70
            | exact TXM_same (by simp (disch := omega) only [zr_n]) (by simp (disch := omega) only [zr_n]) m0 (e71 _ (by decide)) (fun j hj => by rw [e70])
        · first
            | exact TXM_cut (l := d) (by rw [zr_s, upd_s]) (by rw [zr_n (by decide)]) (by omega) (by omega) m1 e71y e70
            | exact TXM_same (by simp (disch := omega) only [zr_n]) (by simp (disch := omega) only [zr_n]) m1 (e71 _ (by decide)) (fun j hj => by rw [e70])
        · first
            | exact TXM_cut (l := d) (by rw [zr_s, upd_s]) (by rw [zr_n (by decide)]) (by omega) (by omega) m2 e71y e70
            | exact TXM_same (by simp (disch := omega) only [zr_n]) (by simp (disch := omega) only [zr_n]) m2 (e71 _ (by decide)) (fun j hj => by rw [e70])
theorem k_type_4 {q : Nat} (h : Inv I) (hq : q < 256) : KI xl 37 114 [.ref 0, .int (nI 1), .int (nI q), .null] [.ref 65, .int (nI 1), .int (nI q)] I J := by
  have hc1 : (if nI 1 < 0 then (0 : Int32) else if nI 1 < 3 then 1 else 0) = 1 := bl1 (n := 3) (by decide) (by decide)
  have hc2 : (if nI q < 0 then (0 : Int32) else if nI q < 256 then 1 else 0) = 1 := bl1 (n := 256) hq (by decide)
  have hr1 : bt (nI 1) 0 2 = 1 := in1 (m := 2) (by decide) (by decide)
  have hr2 : (if nI q < 0 then (0 : Int32) else if 255 < nI q then 0 else 1) = 1 := in1 (m := 255) (by omega) (by decide)
  have hTW := RP_TW h.1.1
  have hlen : tn (I 4 3) ≤ 17 ∧ I 4 3 = nI (tn (I 4 3)) := by
    obtain ⟨⟨a1, a2, a3, a4⟩, ⟨b1, b2, b3, b4⟩, ⟨c1, c2, c3, c4⟩⟩ := hTW
    first | exact ⟨a1, a2⟩ | exact ⟨b1, b2⟩ | exact ⟨c1, c2⟩
  obtain ⟨hl1, hl2⟩ := hlen
  generalize hl : tn (I 4 3) = l at hl1 hl2
  have k1 : ¬ zkd (zG xl) 5 = 99 := by rw [ak_5]; decide
  by_cases hf : l < 17
  · have hX : TW (zr (zr I 5 (upd (I 5) l (nI q))) 4 (upd (I 4) 3 (nI (l + 1)))) := by
      obtain ⟨⟨a1, a2, a3, a4⟩, ⟨b1, b2, b3, b4⟩, ⟨c1, c2, c3, c4⟩⟩ := hTW
      have tl : tn (nI (l + 1)) = l + 1 := nI_clamp (by omega)
      have by' : ∀ j, j < l + 1 → ixN (upd (I 5) l (nI q) j) 256 := by
        intro j hj
        by_cases e : j = l
        · subst e; rw [upd_s, ixN_nI hq (by decide)]; trivial
        · rw [upd_n e]
          first | exact a4 j (by omega) | exact b4 j (by omega) | exact c4 j (by omega)
      unfold TW
      simp (disch := omega) only [zr_n, zr_s, upd_n, upd_s, tl]
      first | exact ⟨⟨by omega, trivial, a3, by'⟩, ⟨b1, b2, b3, b4⟩, ⟨c1, c2, c3, c4⟩⟩ | exact ⟨⟨a1, a2, a3, a4⟩, ⟨by omega, trivial, b3, by'⟩, ⟨c1, c2, c3, c4⟩⟩ | exact ⟨⟨a1, a2, a3, a4⟩, ⟨b1, b2, b3, b4⟩, ⟨by omega, trivial, c3, by'⟩⟩
    have h8 : zr (zr I 5 (upd (I 5) l (nI q))) 4 (upd (I 4) 3 (nI (l + 1))) 8 = I 8 := by simp (disch := omega) only [zr_n]
    have h1000 : zr (zr I 5 (upd (I 5) l (nI q))) 4 (upd (I 4) 3 (nI (l + 1))) 1000 = I 1000 := by simp (disch := omega) only [zr_n]
    have hst := fun Q => c_settle (xl := xl) (J := J) (Q := Q) hX (by rw [h8]; exact h.1.1.2.2.2.1) (by rw [h8]; exact h.1.1.2.2.2.2.1) (by unfold HD; rw [h1000]; exact h.1.1.2.2.2.2.2)
    refine mkU (v := nI (l + 1)) (I1 := zps 18 8 (ztt (zr (zr I 5 (upd (I 5) l (nI q))) 4 (upd (I 4) 3 (nI (l + 1)))))) h (fun Q => ?_) (RC_set h.1 hX h8 h1000 (fun c c1 c2 => by simp (disch := omega) only [zr_n])) (fun c hc => by rw [set_f (by omega)]; simp (disch := omega) only [zr_n]) (fun M J hM => ?_)
    · have e3 : zps 18 8 (ztt (zr (zr I 5 (upd (I 5) l (nI q))) 4 (upd (I 4) 3 (nI (l + 1))))) 4 3 = nI (l + 1) := by
        rw [set_f (by omega), zr_s, upd_s]
      simp (disch := first | assumption | omega | (simp (disch := omega) only [zr_n, zr_s]; assumption)) only [x37_0, x37_1, x37_2, x37_5, x37_8, x37_9, x37_12, x37_15, x37_18, x37_20, x37_21, x37_22_0, x37_25, x37_26, x37_27, x37_28, x37_29_2, x37_29_4, x37_29_6, x37_32, x37_33_2, x37_33_4, x37_33_6, x37_36, x37_37, x37_40, x37_42, x37_43, x37_44_2, x37_44_4, x37_44_6, x37_47, x37_48_2, x37_48_4, x37_48_6, x37_51, x37_52, x37_53, x37_54i, x37_54r, x37_55_2, x37_55_4, x37_55_6, x37_58, x37_59, x37_60_2, x37_60_4, x37_60_6, x37_63, x37_64, x37_67, x37_68_2, x37_68_4, x37_68_6, x37_71, gc_0, br_1, aa_1_0, aa_1_1, aa_1_2, gc_4, bi_5, bs_5, ↓reduceIte, zkl_i, zkl_r, zkl_n, zkl_z, zkl_l, Option.toList_some, Option.toList_none, List.cons_append, List.nil_append, zcs_0, zcs_i, zcs_l, zcs_r, zle8, true_and, and_true, true_or, or_true, c_below, hc1, hc2, i1_0, if_false, ixN_nI, nI_clamp, k1, not_false_eq_true, al_5, c4n, hl2, nI_ltI, hf, if_true, zr_n, na_1, hst, e3]
    · have hM0 := hM
      have hm1 : M 71 1 = nI l := hM.2.1.1.trans hl2
      refine ⟨zr (zr M 70 (upd (M 70) (48 + l) (nI q))) 71 (upd (M 71) 1 (nI (l + 1))), fun Q => ?_, ?_, fun c hc => by simp (disch := omega) only [zr_n]⟩
      · have hne : ¬ l = 17 := by omega
        simp (disch := first | assumption | omega | (simp (disch := omega) only [zr_n, zr_s]; assumption)) only [x114_0, x114_1, x114_4, x114_7, x114_8, x114_9, x114_10, x114_13, x114_16, x114_19, x114_21, x114_22, x114_23_65, x114_26, x114_27, x114_28, x114_29, x114_32, x114_34, x114_37, x114_38, x114_39, x114_42, x114_44, x114_47, x114_49, x114_52, x114_54, x114_55, x114_56_65, x114_59, x114_61, x114_62, x114_63, x114_64_65, x114_67, x114_68, x114_69, x114_70, x114_71, x114_72, x114_73_65, x114_76, x114_77, x114_78, x114_79, x114_80, x114_81, x114_82, x114_83_65, x114_86, x114_87, x114_88, bi_70, bs_70, bi_71, bs_71, ↓reduceIte, zkl_i, zkl_r, zkl_n, zkl_z, zkl_l, Option.toList_some, Option.toList_none, List.cons_append, List.nil_append, zcs_0, zcs_i, zcs_l, zcs_r, zle8, true_and, and_true, true_or, or_true, m_isText, hr1, i1_0, if_false, m_in, k64_0, k64_255, i64_lt, hr2, ixN_nI, nI_clamp, z012, if_true, hm1, ne_29, ne_17, ne_47, hne, nm_48, nI_add, zr_n, zr_s, upd_s, na_1]
      · obtain ⟨⟨a1, a2, a3, a4⟩, ⟨b1, b2, b3, b4⟩, ⟨c1, c2, c3, c4⟩⟩ := hTW
        obtain ⟨m0, m1, m2, -⟩ := hM
        have e71 : ∀ t, t ≠ 1 → zr (zr M 70 (upd (M 70) (48 + l) (nI q))) 71 (upd (M 71) 1 (nI (l + 1))) 71 t = M 71 t := fun t ht => by rw [zr_s, upd_n ht]
        have e70 : zr (zr M 70 (upd (M 70) (48 + l) (nI q))) 71 (upd (M 71) 1 (nI (l + 1))) 70 = upd (M 70) (48 + l) (nI q) := by rw [zr_n (by decide), zr_s]
        have e71y : zr (zr M 70 (upd (M 70) (48 + l) (nI q))) 71 (upd (M 71) 1 (nI (l + 1))) 71 1 = nI (l + 1) := by rw [zr_s, upd_s]
        refine RM_set (X := zr (zr I 5 (upd (I 5) l (nI q))) 4 (upd (I 4) 3 (nI (l + 1)))) hM0 ?_ ?_ ?_ h8 (fun c hc => by simp (disch := omega) only [zr_n]) (fun c c1 c2 c3 => by simp (disch := omega) only [zr_n])
        · first
            | exact TXM_chg (by rw [zr_s, upd_s]) (by rw [zr_n (by decide), zr_s]) hl (by omega) m0 e71y e70
            | exact TXM_same (by simp (disch := omega) only [zr_n]) (by simp (disch := omega) only [zr_n]) m0 (e71 _ (by decide)) (fun j hj => by rw [e70, upd_n (by omega)])
        · first
            | exact TXM_chg (by rw [zr_s, upd_s]) (by rw [zr_n (by decide), zr_s]) hl (by omega) m1 e71y e70
            | exact TXM_same (by simp (disch := omega) only [zr_n]) (by simp (disch := omega) only [zr_n]) m1 (e71 _ (by decide)) (fun j hj => by rw [e70, upd_n (by omega)])
        · first
            | exact TXM_chg (by rw [zr_s, upd_s]) (by rw [zr_n (by decide), zr_s]) hl (by omega) m2 e71y e70
            | exact TXM_same (by simp (disch := omega) only [zr_n]) (by simp (disch := omega) only [zr_n]) m2 (e71 _ (by decide)) (fun j hj => by rw [e70, upd_n (by omega)])
  · have hC : l = 17 := by omega
    refine mkI (v := -4) (I1 := I) (J1 := J) h (fun Q => ?_) (Tr_refl I) (fun M J hM => ⟨M, fun Q => ?_, hM, Fr_refl M⟩)
    · simp (disch := first | assumption | omega | (simp (disch := omega) only [zr_n, zr_s]; assumption)) only [x37_0, x37_1, x37_2, x37_5, x37_8, x37_9, x37_12, x37_15, x37_18, x37_20, x37_21, x37_22_0, x37_25, x37_26, x37_27, x37_28, x37_29_2, x37_29_4, x37_29_6, x37_32, x37_33_2, x37_33_4, x37_33_6, x37_36, x37_37, x37_40, x37_42, x37_43, x37_44_2, x37_44_4, x37_44_6, x37_47, x37_48_2, x37_48_4, x37_48_6, x37_51, x37_52, x37_53, x37_54i, x37_54r, x37_55_2, x37_55_4, x37_55_6, x37_58, x37_59, x37_60_2, x37_60_4, x37_60_6, x37_63, x37_64, x37_67, x37_68_2, x37_68_4, x37_68_6, x37_71, gc_0, br_1, aa_1_0, aa_1_1, aa_1_2, gc_4, bi_5, bs_5, ↓reduceIte, zkl_i, zkl_r, zkl_n, zkl_z, zkl_l, Option.toList_some, Option.toList_none, List.cons_append, List.nil_append, zcs_0, zcs_i, zcs_l, zcs_r, zle8, true_and, and_true, true_or, or_true, c_below, hc1, hc2, i1_0, if_false, ixN_nI, nI_clamp, k1, not_false_eq_true, al_5, c4n, hl2, nI_ltI, hf]
    · have hm1 : M 71 1 = nI l := hM.2.1.1.trans hl2
      simp (disch := first | assumption | omega | (simp (disch := omega) only [zr_n, zr_s]; assumption)) only [x114_0, x114_1, x114_4, x114_7, x114_8, x114_9, x114_10, x114_13, x114_16, x114_19, x114_21, x114_22, x114_23_65, x114_26, x114_27, x114_28, x114_29, x114_32, x114_34, x114_37, x114_38, x114_39, x114_42, x114_44, x114_47, x114_49, x114_52, x114_54, x114_55, x114_56_65, x114_59, x114_61, x114_62, x114_63, x114_64_65, x114_67, x114_68, x114_69, x114_70, x114_71, x114_72, x114_73_65, x114_76, x114_77, x114_78, x114_79, x114_80, x114_81, x114_82, x114_83_65, x114_86, x114_87, x114_88, bi_70, bs_70, bi_71, bs_71, ↓reduceIte, zkl_i, zkl_r, zkl_n, zkl_z, zkl_l, Option.toList_some, Option.toList_none, List.cons_append, List.nil_append, zcs_0, zcs_i, zcs_l, zcs_r, zle8, true_and, and_true, true_or, or_true, m_isText, hr1, i1_0, if_false, m_in, k64_0, k64_255, i64_lt, hr2, ixN_nI, nI_clamp, z012, if_true, hm1, ne_29, ne_17, ne_47, hC]
theorem k_wipe_4 (h : Inv I) : KI xl 38 115 [.ref 0, .int (nI 1), .null] [.ref 65, .int (nI 1), .null] I J := by
  have hc1 : (if nI 1 < 0 then (0 : Int32) else if nI 1 < 3 then 1 else 0) = 1 := bl1 (n := 3) (by decide) (by decide)
  have hr1 : bt (nI 1) 0 2 = 1 := in1 (m := 2) (by decide) (by decide)
  have hTW := RP_TW h.1.1
  have tl : tn (0 : Int32) = 0 := t0
  have hX : TW (zr I 4 (upd (I 4) 3 0)) := by
    obtain ⟨⟨a1, a2, a3, a4⟩, ⟨b1, b2, b3, b4⟩, ⟨c1, c2, c3, c4⟩⟩ := hTW
    unfold TW
    simp (disch := omega) only [zr_n, zr_s, upd_n, upd_s, tl]
    first | exact ⟨⟨by omega, by decide, a3, fun j hj => by omega⟩, ⟨b1, b2, b3, b4⟩, ⟨c1, c2, c3, c4⟩⟩ | exact ⟨⟨a1, a2, a3, a4⟩, ⟨by omega, by decide, b3, fun j hj => by omega⟩, ⟨c1, c2, c3, c4⟩⟩ | exact ⟨⟨a1, a2, a3, a4⟩, ⟨b1, b2, b3, b4⟩, ⟨by omega, by decide, c3, fun j hj => by omega⟩⟩
  have h8 : zr I 4 (upd (I 4) 3 0) 8 = I 8 := by simp (disch := omega) only [zr_n]
  have h1000 : zr I 4 (upd (I 4) 3 0) 1000 = I 1000 := by simp (disch := omega) only [zr_n]
  have hst := fun Q => c_settle (xl := xl) (J := J) (Q := Q) hX (by rw [h8]; exact h.1.1.2.2.2.1) (by rw [h8]; exact h.1.1.2.2.2.2.1) (by unfold HD; rw [h1000]; exact h.1.1.2.2.2.2.2)
  refine mkU (v := I 4 3) (I1 := zps 18 8 (ztt (zr I 4 (upd (I 4) 3 0)))) h (fun Q => ?_) (RC_set h.1 hX h8 h1000 (fun c c1 c2 => by simp (disch := omega) only [zr_n])) (fun c hc => by rw [set_f (by omega)]; simp (disch := omega) only [zr_n]) (fun M J hM => ?_)
  · simp (disch := first | assumption | omega | (simp (disch := omega) only [zr_n, zr_s]; assumption)) only [x38_0, x38_1, x38_2, x38_5, x38_8, x38_10, x38_11, x38_12_0, x38_15, x38_16, x38_17_2, x38_17_4, x38_17_6, x38_20, x38_21, x38_22_0, x38_25, x38_26, x38_27, x38_28_2, x38_28_4, x38_28_6, x38_31, x38_32, x38_35, x38_36, gc_0, br_1, aa_1_0, aa_1_1, aa_1_2, gc_4, ↓reduceIte, zkl_i, zkl_r, zkl_n, zkl_z, zkl_l, Option.toList_some, Option.toList_none, List.cons_append, List.nil_append, zcs_0, zcs_i, zcs_l, zcs_r, zle8, true_and, and_true, true_or, or_true, c_below, hc1, i1_0, if_false, ixN_nI, nI_clamp, hst]
  · have hM0 := hM
    have hm1 : M 71 1 = I 4 3 := hM.2.1.1
    refine ⟨zr M 71 (upd (M 71) 1 0), fun Q => ?_, ?_, fun c hc => by simp (disch := omega) only [zr_n]⟩
    · simp (disch := first | assumption | omega | (simp (disch := omega) only [zr_n, zr_s]; assumption)) only [x115_0, x115_1, x115_4, x115_7, x115_9, x115_10, x115_11_65, x115_14, x115_15, x115_16, x115_17, x115_18_65, x115_21, x115_22, x115_23, x115_24, x115_25, bi_71, bs_71, ↓reduceIte, zkl_i, zkl_r, zkl_n, zkl_z, zkl_l, Option.toList_some, Option.toList_none, List.cons_append, List.nil_append, zcs_0, zcs_i, zcs_l, zcs_r, zle8, true_and, and_true, true_or, or_true, m_isText, hr1, i1_0, if_false, ixN_nI, nI_clamp, hm1]
    · obtain ⟨m0, m1, m2, -⟩ := hM
      have e71 : ∀ t, t ≠ 1 → zr M 71 (upd (M 71) 1 0) 71 t = M 71 t := fun t ht => by rw [zr_s, upd_n ht]
      have e70 : zr M 71 (upd (M 71) 1 0) 70 = M 70 := by rw [zr_n (by decide)]
      have e71y : zr M 71 (upd (M 71) 1 0) 71 1 = nI 0 := by rw [zr_s, upd_s]; rfl
      refine RM_set (X := zr I 4 (upd (I 4) 3 0)) hM0 ?_ ?_ ?_ h8 (fun c hc => by simp (disch := omega) only [zr_n]) (fun c c1 c2 c3 => by simp (disch := omega) only [zr_n])
      · first
          | exact TXM_cut (l := 0) (by rw [zr_s, upd_s]; rfl) (by rw [zr_n (by decide)]) (by omega) (by omega) m0 e71y e70
          | exact TXM_same (by simp (disch := omega) only [zr_n]) (by simp (disch := omega) only [zr_n]) m0 (e71 _ (by decide)) (fun j hj => by rw [e70])
      · first
          | exact TXM_cut (l := 0) (by rw [zr_s, upd_s]; rfl) (by rw [zr_n (by decide)]) (by omega) (by omega) m1 e71y e70
          | exact TXM_same (by simp (disch := omega) only [zr_n]) (by simp (disch := omega) only [zr_n]) m1 (e71 _ (by decide)) (fun j hj => by rw [e70])
      · first
          | exact TXM_cut (l := 0) (by rw [zr_s, upd_s]; rfl) (by rw [zr_n (by decide)]) (by omega) (by omega) m2 e71y e70
          | exact TXM_same (by simp (disch := omega) only [zr_n]) (by simp (disch := omega) only [zr_n]) m2 (e71 _ (by decide)) (fun j hj => by rw [e70])
theorem k_undo_4 (h : Inv I) : KI xl 39 116 [.ref 0, .int (nI 1), .null] [.ref 65, .int (nI 1)] I J := by
  have hc1 : (if nI 1 < 0 then (0 : Int32) else if nI 1 < 3 then 1 else 0) = 1 := bl1 (n := 3) (by decide) (by decide)
  have hr1 : bt (nI 1) 0 2 = 1 := in1 (m := 2) (by decide) (by decide)
  have hTW := RP_TW h.1.1
  have hlen : tn (I 4 3) ≤ 17 ∧ I 4 3 = nI (tn (I 4 3)) := by
    obtain ⟨⟨a1, a2, a3, a4⟩, ⟨b1, b2, b3, b4⟩, ⟨c1, c2, c3, c4⟩⟩ := hTW
    first | exact ⟨a1, a2⟩ | exact ⟨b1, b2⟩ | exact ⟨c1, c2⟩
  obtain ⟨hl1, hl2⟩ := hlen
  generalize hl : tn (I 4 3) = l at hl1 hl2
  by_cases hz : l = 0
  · refine mkI (v := -3) (I1 := I) (J1 := J) h (fun Q => ?_) (Tr_refl I) (fun M J hM => ⟨M, fun Q => ?_, hM, Fr_refl M⟩)
    · have hz0 : I 4 3 = 0 := by rw [hl2, hz]; rfl
      simp (disch := first | assumption | omega | (simp (disch := omega) only [zr_n, zr_s]; assumption)) only [x39_0, x39_1, x39_2, x39_5, x39_8, x39_10, x39_11, x39_12_0, x39_15, x39_16, x39_17, x39_18, x39_19_2, x39_19_4, x39_19_6, x39_22, x39_25, x39_27, x39_28, x39_29i, x39_29r, x39_30_2, x39_30_4, x39_30_6, x39_33, x39_34, x39_35_2, x39_35_4, x39_35_6, x39_38, x39_39, x39_42, x39_43_2, x39_43_4, x39_43_6, x39_46, gc_0, br_1, aa_1_0, aa_1_1, aa_1_2, gc_4, ↓reduceIte, zkl_i, zkl_r, zkl_n, zkl_z, zkl_l, Option.toList_some, Option.toList_none, List.cons_append, List.nil_append, zcs_0, zcs_i, zcs_l, zcs_r, zle8, true_and, and_true, true_or, or_true, c_below, hc1, i1_0, if_false, ixN_nI, nI_clamp, hz0, if_true]
    · have hm1 : M 71 1 = 0 := by rw [hM.2.1.1, hl2, hz]; rfl
      simp (disch := first | assumption | omega | (simp (disch := omega) only [zr_n, zr_s]; assumption)) only [x116_0, x116_1, x116_4, x116_7, x116_9, x116_10, x116_11_65, x116_14, x116_15, x116_16, x116_19, x116_21, x116_22, x116_23_65, x116_26, x116_27, x116_28, x116_29, x116_30, x116_31, x116_32, x116_33_65, x116_36, x116_37, x116_38, bi_71, bs_71, ↓reduceIte, zkl_i, zkl_r, zkl_n, zkl_z, zkl_l, Option.toList_some, Option.toList_none, List.cons_append, List.nil_append, zcs_0, zcs_i, zcs_l, zcs_r, zle8, true_and, and_true, true_or, or_true, m_isText, hr1, i1_0, if_false, ixN_nI, nI_clamp, hm1, if_true]
  · obtain ⟨d, rfl⟩ : ∃ d, l = d + 1 := ⟨l - 1, by omega⟩
    have hX : TW (zr I 4 (upd (I 4) 3 (nI d))) := by
      obtain ⟨⟨a1, a2, a3, a4⟩, ⟨b1, b2, b3, b4⟩, ⟨c1, c2, c3, c4⟩⟩ := hTW
      have tl : tn (nI d) = d := nI_clamp (by omega)
      unfold TW
      simp (disch := omega) only [zr_n, zr_s, upd_n, upd_s, tl]
      first | exact ⟨⟨by omega, trivial, a3, fun j hj => a4 j (by omega)⟩, ⟨b1, b2, b3, b4⟩, ⟨c1, c2, c3, c4⟩⟩ | exact ⟨⟨a1, a2, a3, a4⟩, ⟨by omega, trivial, b3, fun j hj => b4 j (by omega)⟩, ⟨c1, c2, c3, c4⟩⟩ | exact ⟨⟨a1, a2, a3, a4⟩, ⟨b1, b2, b3, b4⟩, ⟨by omega, trivial, c3, fun j hj => c4 j (by omega)⟩⟩
    have h8 : zr I 4 (upd (I 4) 3 (nI d)) 8 = I 8 := by simp (disch := omega) only [zr_n]
    have h1000 : zr I 4 (upd (I 4) 3 (nI d)) 1000 = I 1000 := by simp (disch := omega) only [zr_n]
    have hst := fun Q => c_settle (xl := xl) (J := J) (Q := Q) hX (by rw [h8]; exact h.1.1.2.2.2.1) (by rw [h8]; exact h.1.1.2.2.2.2.1) (by unfold HD; rw [h1000]; exact h.1.1.2.2.2.2.2)
    have nz : ¬ nI (d + 1) = 0 := nI_ne0 (by omega) (by omega)
    refine mkU (v := nI d) (I1 := zps 18 8 (ztt (zr I 4 (upd (I 4) 3 (nI d))))) h (fun Q => ?_) (RC_set h.1 hX h8 h1000 (fun c c1 c2 => by simp (disch := omega) only [zr_n])) (fun c hc => by rw [set_f (by omega)]; simp (disch := omega) only [zr_n]) (fun M J hM => ?_)
    · have e3 : zps 18 8 (ztt (zr I 4 (upd (I 4) 3 (nI d)))) 4 3 = nI d := by
        rw [set_f (by omega), zr_s, upd_s]
      simp (disch := first | assumption | omega | (simp (disch := omega) only [zr_n, zr_s]; assumption)) only [x39_0, x39_1, x39_2, x39_5, x39_8, x39_10, x39_11, x39_12_0, x39_15, x39_16, x39_17, x39_18, x39_19_2, x39_19_4, x39_19_6, x39_22, x39_25, x39_27, x39_28, x39_29i, x39_29r, x39_30_2, x39_30_4, x39_30_6, x39_33, x39_34, x39_35_2, x39_35_4, x39_35_6, x39_38, x39_39, x39_42, x39_43_2, x39_43_4, x39_43_6, x39_46, gc_0, br_1, aa_1_0, aa_1_1, aa_1_2, gc_4, ↓reduceIte, zkl_i, zkl_r, zkl_n, zkl_z, zkl_l, Option.toList_some, Option.toList_none, List.cons_append, List.nil_append, zcs_0, zcs_i, zcs_l, zcs_r, zle8, true_and, and_true, true_or, or_true, c_below, hc1, i1_0, if_false, ixN_nI, nI_clamp, hl2, nz, nI_pred, hst, e3]
    · have hM0 := hM
      have hm1 : M 71 1 = nI (d + 1) := hM.2.1.1.trans hl2
      refine ⟨zr M 71 (upd (M 71) 1 (nI d)), fun Q => ?_, ?_, fun c hc => by simp (disch := omega) only [zr_n]⟩
      · simp (disch := first | assumption | omega | (simp (disch := omega) only [zr_n, zr_s]; assumption)) only [x116_0, x116_1, x116_4, x116_7, x116_9, x116_10, x116_11_65, x116_14, x116_15, x116_16, x116_19, x116_21, x116_22, x116_23_65, x116_26, x116_27, x116_28, x116_29, x116_30, x116_31, x116_32, x116_33_65, x116_36, x116_37, x116_38, bi_71, bs_71, ↓reduceIte, zkl_i, zkl_r, zkl_n, zkl_z, zkl_l, Option.toList_some, Option.toList_none, List.cons_append, List.nil_append, zcs_0, zcs_i, zcs_l, zcs_r, zle8, true_and, and_true, true_or, or_true, m_isText, hr1, i1_0, if_false, ixN_nI, nI_clamp, hm1, nz, nI_pred, zr_s, upd_s]
      · obtain ⟨m0, m1, m2, -⟩ := hM
        have e71 : ∀ t, t ≠ 1 → zr M 71 (upd (M 71) 1 (nI d)) 71 t = M 71 t := fun t ht => by rw [zr_s, upd_n ht]
        have e70 : zr M 71 (upd (M 71) 1 (nI d)) 70 = M 70 := by rw [zr_n (by decide)]
        have e71y : zr M 71 (upd (M 71) 1 (nI d)) 71 1 = nI d := by rw [zr_s, upd_s]
        refine RM_set (X := zr I 4 (upd (I 4) 3 (nI d))) hM0 ?_ ?_ ?_ h8 (fun c hc => by simp (disch := omega) only [zr_n]) (fun c c1 c2 c3 => by simp (disch := omega) only [zr_n])
        · first
            | exact TXM_cut (l := d) (by rw [zr_s, upd_s]) (by rw [zr_n (by decide)]) (by omega) (by omega) m0 e71y e70
            | exact TXM_same (by simp (disch := omega) only [zr_n]) (by simp (disch := omega) only [zr_n]) m0 (e71 _ (by decide)) (fun j hj => by rw [e70])
        · first
            | exact TXM_cut (l := d) (by rw [zr_s, upd_s]) (by rw [zr_n (by decide)]) (by omega) (by omega) m1 e71y e70
            | exact TXM_same (by simp (disch := omega) only [zr_n]) (by simp (disch := omega) only [zr_n]) m1 (e71 _ (by decide)) (fun j hj => by rw [e70])
        · first
            | exact TXM_cut (l := d) (by rw [zr_s, upd_s]) (by rw [zr_n (by decide)]) (by omega) (by omega) m2 e71y e70
            | exact TXM_same (by simp (disch := omega) only [zr_n]) (by simp (disch := omega) only [zr_n]) m2 (e71 _ (by decide)) (fun j hj => by rw [e70])
theorem k_type_6 {q : Nat} (h : Inv I) (hq : q < 256) : KI xl 37 114 [.ref 0, .int (nI 2), .int (nI q), .null] [.ref 65, .int (nI 2), .int (nI q)] I J := by
  have hc1 : (if nI 2 < 0 then (0 : Int32) else if nI 2 < 3 then 1 else 0) = 1 := bl1 (n := 3) (by decide) (by decide)
  have hc2 : (if nI q < 0 then (0 : Int32) else if nI q < 256 then 1 else 0) = 1 := bl1 (n := 256) hq (by decide)
  have hr1 : bt (nI 2) 0 2 = 1 := in1 (m := 2) (by decide) (by decide)
  have hr2 : (if nI q < 0 then (0 : Int32) else if 255 < nI q then 0 else 1) = 1 := in1 (m := 255) (by omega) (by decide)
  have hTW := RP_TW h.1.1
  have hlen : tn (I 6 3) ≤ 47 ∧ I 6 3 = nI (tn (I 6 3)) := by
    obtain ⟨⟨a1, a2, a3, a4⟩, ⟨b1, b2, b3, b4⟩, ⟨c1, c2, c3, c4⟩⟩ := hTW
    first | exact ⟨a1, a2⟩ | exact ⟨b1, b2⟩ | exact ⟨c1, c2⟩
  obtain ⟨hl1, hl2⟩ := hlen
  generalize hl : tn (I 6 3) = l at hl1 hl2
  have k1 : ¬ zkd (zG xl) 7 = 99 := by rw [ak_7]; decide
  by_cases hf : l < 47
  · have hX : TW (zr (zr I 7 (upd (I 7) l (nI q))) 6 (upd (I 6) 3 (nI (l + 1)))) := by
      obtain ⟨⟨a1, a2, a3, a4⟩, ⟨b1, b2, b3, b4⟩, ⟨c1, c2, c3, c4⟩⟩ := hTW
      have tl : tn (nI (l + 1)) = l + 1 := nI_clamp (by omega)
      have by' : ∀ j, j < l + 1 → ixN (upd (I 7) l (nI q) j) 256 := by
        intro j hj
        by_cases e : j = l
        · subst e; rw [upd_s, ixN_nI hq (by decide)]; trivial
        · rw [upd_n e]
          first | exact a4 j (by omega) | exact b4 j (by omega) | exact c4 j (by omega)
      unfold TW
      simp (disch := omega) only [zr_n, zr_s, upd_n, upd_s, tl]
      first | exact ⟨⟨by omega, trivial, a3, by'⟩, ⟨b1, b2, b3, b4⟩, ⟨c1, c2, c3, c4⟩⟩ | exact ⟨⟨a1, a2, a3, a4⟩, ⟨by omega, trivial, b3, by'⟩, ⟨c1, c2, c3, c4⟩⟩ | exact ⟨⟨a1, a2, a3, a4⟩, ⟨b1, b2, b3, b4⟩, ⟨by omega, trivial, c3, by'⟩⟩
    have h8 : zr (zr I 7 (upd (I 7) l (nI q))) 6 (upd (I 6) 3 (nI (l + 1))) 8 = I 8 := by simp (disch := omega) only [zr_n]
    have h1000 : zr (zr I 7 (upd (I 7) l (nI q))) 6 (upd (I 6) 3 (nI (l + 1))) 1000 = I 1000 := by simp (disch := omega) only [zr_n]
    have hst := fun Q => c_settle (xl := xl) (J := J) (Q := Q) hX (by rw [h8]; exact h.1.1.2.2.2.1) (by rw [h8]; exact h.1.1.2.2.2.2.1) (by unfold HD; rw [h1000]; exact h.1.1.2.2.2.2.2)
    refine mkU (v := nI (l + 1)) (I1 := zps 18 8 (ztt (zr (zr I 7 (upd (I 7) l (nI q))) 6 (upd (I 6) 3 (nI (l + 1)))))) h (fun Q => ?_) (RC_set h.1 hX h8 h1000 (fun c c1 c2 => by simp (disch := omega) only [zr_n])) (fun c hc => by rw [set_f (by omega)]; simp (disch := omega) only [zr_n]) (fun M J hM => ?_)
    · have e3 : zps 18 8 (ztt (zr (zr I 7 (upd (I 7) l (nI q))) 6 (upd (I 6) 3 (nI (l + 1))))) 6 3 = nI (l + 1) := by
        rw [set_f (by omega), zr_s, upd_s]
      simp (disch := first | assumption | omega | (simp (disch := omega) only [zr_n, zr_s]; assumption)) only [x37_0, x37_1, x37_2, x37_5, x37_8, x37_9, x37_12, x37_15, x37_18, x37_20, x37_21, x37_22_0, x37_25, x37_26, x37_27, x37_28, x37_29_2, x37_29_4, x37_29_6, x37_32, x37_33_2, x37_33_4, x37_33_6, x37_36, x37_37, x37_40, x37_42, x37_43, x37_44_2, x37_44_4, x37_44_6, x37_47, x37_48_2, x37_48_4, x37_48_6, x37_51, x37_52, x37_53, x37_54i, x37_54r, x37_55_2, x37_55_4, x37_55_6, x37_58, x37_59, x37_60_2, x37_60_4, x37_60_6, x37_63, x37_64, x37_67, x37_68_2, x37_68_4, x37_68_6, x37_71, gc_0, br_1, aa_1_0, aa_1_1, aa_1_2, gc_6, bi_7, bs_7, ↓reduceIte, zkl_i, zkl_r, zkl_n, zkl_z, zkl_l, Option.toList_some, Option.toList_none, List.cons_append, List.nil_append, zcs_0, zcs_i, zcs_l, zcs_r, zle8, true_and, and_true, true_or, or_true, c_below, hc1, hc2, i1_0, if_false, ixN_nI, nI_clamp, k1, not_false_eq_true, al_7, c4n, hl2, nI_ltI, hf, if_true, zr_n, na_1, hst, e3]
    · have hM0 := hM
      have hm1 : M 71 2 = nI l := hM.2.2.1.1.trans hl2
      refine ⟨zr (zr M 70 (upd (M 70) (96 + l) (nI q))) 71 (upd (M 71) 2 (nI (l + 1))), fun Q => ?_, ?_, fun c hc => by simp (disch := omega) only [zr_n]⟩
      · have hne : ¬ l = 47 := by omega
        simp (disch := first | assumption | omega | (simp (disch := omega) only [zr_n, zr_s]; assumption)) only [x114_0, x114_1, x114_4, x114_7, x114_8, x114_9, x114_10, x114_13, x114_16, x114_19, x114_21, x114_22, x114_23_65, x114_26, x114_27, x114_28, x114_29, x114_32, x114_34, x114_37, x114_38, x114_39, x114_42, x114_44, x114_47, x114_49, x114_52, x114_54, x114_55, x114_56_65, x114_59, x114_61, x114_62, x114_63, x114_64_65, x114_67, x114_68, x114_69, x114_70, x114_71, x114_72, x114_73_65, x114_76, x114_77, x114_78, x114_79, x114_80, x114_81, x114_82, x114_83_65, x114_86, x114_87, x114_88, bi_70, bs_70, bi_71, bs_71, ↓reduceIte, zkl_i, zkl_r, zkl_n, zkl_z, zkl_l, Option.toList_some, Option.toList_none, List.cons_append, List.nil_append, zcs_0, zcs_i, zcs_l, zcs_r, zle8, true_and, and_true, true_or, or_true, m_isText, hr1, i1_0, if_false, m_in, k64_0, k64_255, i64_lt, hr2, ixN_nI, nI_clamp, z012, if_true, hm1, ne_29, ne_17, ne_47, hne, nm_48, nI_add, zr_n, zr_s, upd_s, na_1]
      · obtain ⟨⟨a1, a2, a3, a4⟩, ⟨b1, b2, b3, b4⟩, ⟨c1, c2, c3, c4⟩⟩ := hTW
        obtain ⟨m0, m1, m2, -⟩ := hM
        have e71 : ∀ t, t ≠ 2 → zr (zr M 70 (upd (M 70) (96 + l) (nI q))) 71 (upd (M 71) 2 (nI (l + 1))) 71 t = M 71 t := fun t ht => by rw [zr_s, upd_n ht]
        have e70 : zr (zr M 70 (upd (M 70) (96 + l) (nI q))) 71 (upd (M 71) 2 (nI (l + 1))) 70 = upd (M 70) (96 + l) (nI q) := by rw [zr_n (by decide), zr_s]
        have e71y : zr (zr M 70 (upd (M 70) (96 + l) (nI q))) 71 (upd (M 71) 2 (nI (l + 1))) 71 2 = nI (l + 1) := by rw [zr_s, upd_s]
        refine RM_set (X := zr (zr I 7 (upd (I 7) l (nI q))) 6 (upd (I 6) 3 (nI (l + 1)))) hM0 ?_ ?_ ?_ h8 (fun c hc => by simp (disch := omega) only [zr_n]) (fun c c1 c2 c3 => by simp (disch := omega) only [zr_n])
        · first
            | exact TXM_chg (by rw [zr_s, upd_s]) (by rw [zr_n (by decide), zr_s]) hl (by omega) m0 e71y e70
            | exact TXM_same (by simp (disch := omega) only [zr_n]) (by simp (disch := omega) only [zr_n]) m0 (e71 _ (by decide)) (fun j hj => by rw [e70, upd_n (by omega)])
        · first
            | exact TXM_chg (by rw [zr_s, upd_s]) (by rw [zr_n (by decide), zr_s]) hl (by omega) m1 e71y e70
            | exact TXM_same (by simp (disch := omega) only [zr_n]) (by simp (disch := omega) only [zr_n]) m1 (e71 _ (by decide)) (fun j hj => by rw [e70, upd_n (by omega)])
        · first
            | exact TXM_chg (by rw [zr_s, upd_s]) (by rw [zr_n (by decide), zr_s]) hl (by omega) m2 e71y e70
            | exact TXM_same (by simp (disch := omega) only [zr_n]) (by simp (disch := omega) only [zr_n]) m2 (e71 _ (by decide)) (fun j hj => by rw [e70, upd_n (by omega)])
  · have hC : l = 47 := by omega
    refine mkI (v := -4) (I1 := I) (J1 := J) h (fun Q => ?_) (Tr_refl I) (fun M J hM => ⟨M, fun Q => ?_, hM, Fr_refl M⟩)
    · simp (disch := first | assumption | omega | (simp (disch := omega) only [zr_n, zr_s]; assumption)) only [x37_0, x37_1, x37_2, x37_5, x37_8, x37_9, x37_12, x37_15, x37_18, x37_20, x37_21, x37_22_0, x37_25, x37_26, x37_27, x37_28, x37_29_2, x37_29_4, x37_29_6, x37_32, x37_33_2, x37_33_4, x37_33_6, x37_36, x37_37, x37_40, x37_42, x37_43, x37_44_2, x37_44_4, x37_44_6, x37_47, x37_48_2, x37_48_4, x37_48_6, x37_51, x37_52, x37_53, x37_54i, x37_54r, x37_55_2, x37_55_4, x37_55_6, x37_58, x37_59, x37_60_2, x37_60_4, x37_60_6, x37_63, x37_64, x37_67, x37_68_2, x37_68_4, x37_68_6, x37_71, gc_0, br_1, aa_1_0, aa_1_1, aa_1_2, gc_6, bi_7, bs_7, ↓reduceIte, zkl_i, zkl_r, zkl_n, zkl_z, zkl_l, Option.toList_some, Option.toList_none, List.cons_append, List.nil_append, zcs_0, zcs_i, zcs_l, zcs_r, zle8, true_and, and_true, true_or, or_true, c_below, hc1, hc2, i1_0, if_false, ixN_nI, nI_clamp, k1, not_false_eq_true, al_7, c4n, hl2, nI_ltI, hf]
    · have hm1 : M 71 2 = nI l := hM.2.2.1.1.trans hl2
      simp (disch := first | assumption | omega | (simp (disch := omega) only [zr_n, zr_s]; assumption)) only [x114_0, x114_1, x114_4, x114_7, x114_8, x114_9, x114_10, x114_13, x114_16, x114_19, x114_21, x114_22, x114_23_65, x114_26, x114_27, x114_28, x114_29, x114_32, x114_34, x114_37, x114_38, x114_39, x114_42, x114_44, x114_47, x114_49, x114_52, x114_54, x114_55, x114_56_65, x114_59, x114_61, x114_62, x114_63, x114_64_65, x114_67, x114_68, x114_69, x114_70, x114_71, x114_72, x114_73_65, x114_76, x114_77, x114_78, x114_79, x114_80, x114_81, x114_82, x114_83_65, x114_86, x114_87, x114_88, bi_70, bs_70, bi_71, bs_71, ↓reduceIte, zkl_i, zkl_r, zkl_n, zkl_z, zkl_l, Option.toList_some, Option.toList_none, List.cons_append, List.nil_append, zcs_0, zcs_i, zcs_l, zcs_r, zle8, true_and, and_true, true_or, or_true, m_isText, hr1, i1_0, if_false, m_in, k64_0, k64_255, i64_lt, hr2, ixN_nI, nI_clamp, z012, if_true, hm1, ne_29, ne_17, ne_47, hC]
theorem k_wipe_6 (h : Inv I) : KI xl 38 115 [.ref 0, .int (nI 2), .null] [.ref 65, .int (nI 2), .null] I J := by
  have hc1 : (if nI 2 < 0 then (0 : Int32) else if nI 2 < 3 then 1 else 0) = 1 := bl1 (n := 3) (by decide) (by decide)
  have hr1 : bt (nI 2) 0 2 = 1 := in1 (m := 2) (by decide) (by decide)
  have hTW := RP_TW h.1.1
  have tl : tn (0 : Int32) = 0 := t0
  have hX : TW (zr I 6 (upd (I 6) 3 0)) := by
    obtain ⟨⟨a1, a2, a3, a4⟩, ⟨b1, b2, b3, b4⟩, ⟨c1, c2, c3, c4⟩⟩ := hTW
    unfold TW
    simp (disch := omega) only [zr_n, zr_s, upd_n, upd_s, tl]
    first | exact ⟨⟨by omega, by decide, a3, fun j hj => by omega⟩, ⟨b1, b2, b3, b4⟩, ⟨c1, c2, c3, c4⟩⟩ | exact ⟨⟨a1, a2, a3, a4⟩, ⟨by omega, by decide, b3, fun j hj => by omega⟩, ⟨c1, c2, c3, c4⟩⟩ | exact ⟨⟨a1, a2, a3, a4⟩, ⟨b1, b2, b3, b4⟩, ⟨by omega, by decide, c3, fun j hj => by omega⟩⟩
  have h8 : zr I 6 (upd (I 6) 3 0) 8 = I 8 := by simp (disch := omega) only [zr_n]
  have h1000 : zr I 6 (upd (I 6) 3 0) 1000 = I 1000 := by simp (disch := omega) only [zr_n]
  have hst := fun Q => c_settle (xl := xl) (J := J) (Q := Q) hX (by rw [h8]; exact h.1.1.2.2.2.1) (by rw [h8]; exact h.1.1.2.2.2.2.1) (by unfold HD; rw [h1000]; exact h.1.1.2.2.2.2.2)
  refine mkU (v := I 6 3) (I1 := zps 18 8 (ztt (zr I 6 (upd (I 6) 3 0)))) h (fun Q => ?_) (RC_set h.1 hX h8 h1000 (fun c c1 c2 => by simp (disch := omega) only [zr_n])) (fun c hc => by rw [set_f (by omega)]; simp (disch := omega) only [zr_n]) (fun M J hM => ?_)
  · simp (disch := first | assumption | omega | (simp (disch := omega) only [zr_n, zr_s]; assumption)) only [x38_0, x38_1, x38_2, x38_5, x38_8, x38_10, x38_11, x38_12_0, x38_15, x38_16, x38_17_2, x38_17_4, x38_17_6, x38_20, x38_21, x38_22_0, x38_25, x38_26, x38_27, x38_28_2, x38_28_4, x38_28_6, x38_31, x38_32, x38_35, x38_36, gc_0, br_1, aa_1_0, aa_1_1, aa_1_2, gc_6, ↓reduceIte, zkl_i, zkl_r, zkl_n, zkl_z, zkl_l, Option.toList_some, Option.toList_none, List.cons_append, List.nil_append, zcs_0, zcs_i, zcs_l, zcs_r, zle8, true_and, and_true, true_or, or_true, c_below, hc1, i1_0, if_false, ixN_nI, nI_clamp, hst]
  · have hM0 := hM
    have hm1 : M 71 2 = I 6 3 := hM.2.2.1.1
    refine ⟨zr M 71 (upd (M 71) 2 0), fun Q => ?_, ?_, fun c hc => by simp (disch := omega) only [zr_n]⟩
    · simp (disch := first | assumption | omega | (simp (disch := omega) only [zr_n, zr_s]; assumption)) only [x115_0, x115_1, x115_4, x115_7, x115_9, x115_10, x115_11_65, x115_14, x115_15, x115_16, x115_17, x115_18_65, x115_21, x115_22, x115_23, x115_24, x115_25, bi_71, bs_71, ↓reduceIte, zkl_i, zkl_r, zkl_n, zkl_z, zkl_l, Option.toList_some, Option.toList_none, List.cons_append, List.nil_append, zcs_0, zcs_i, zcs_l, zcs_r, zle8, true_and, and_true, true_or, or_true, m_isText, hr1, i1_0, if_false, ixN_nI, nI_clamp, hm1]
    · obtain ⟨m0, m1, m2, -⟩ := hM
      have e71 : ∀ t, t ≠ 2 → zr M 71 (upd (M 71) 2 0) 71 t = M 71 t := fun t ht => by rw [zr_s, upd_n ht]
      have e70 : zr M 71 (upd (M 71) 2 0) 70 = M 70 := by rw [zr_n (by decide)]
      have e71y : zr M 71 (upd (M 71) 2 0) 71 2 = nI 0 := by rw [zr_s, upd_s]; rfl
      refine RM_set (X := zr I 6 (upd (I 6) 3 0)) hM0 ?_ ?_ ?_ h8 (fun c hc => by simp (disch := omega) only [zr_n]) (fun c c1 c2 c3 => by simp (disch := omega) only [zr_n])
      · first
          | exact TXM_cut (l := 0) (by rw [zr_s, upd_s]; rfl) (by rw [zr_n (by decide)]) (by omega) (by omega) m0 e71y e70
          | exact TXM_same (by simp (disch := omega) only [zr_n]) (by simp (disch := omega) only [zr_n]) m0 (e71 _ (by decide)) (fun j hj => by rw [e70])
      · first
          | exact TXM_cut (l := 0) (by rw [zr_s, upd_s]; rfl) (by rw [zr_n (by decide)]) (by omega) (by omega) m1 e71y e70
          | exact TXM_same (by simp (disch := omega) only [zr_n]) (by simp (disch := omega) only [zr_n]) m1 (e71 _ (by decide)) (fun j hj => by rw [e70])
      · first
          | exact TXM_cut (l := 0) (by rw [zr_s, upd_s]; rfl) (by rw [zr_n (by decide)]) (by omega) (by omega) m2 e71y e70
          | exact TXM_same (by simp (disch := omega) only [zr_n]) (by simp (disch := omega) only [zr_n]) m2 (e71 _ (by decide)) (fun j hj => by rw [e70])
theorem k_undo_6 (h : Inv I) : KI xl 39 116 [.ref 0, .int (nI 2), .null] [.ref 65, .int (nI 2)] I J := by
  have hc1 : (if nI 2 < 0 then (0 : Int32) else if nI 2 < 3 then 1 else 0) = 1 := bl1 (n := 3) (by decide) (by decide)
  have hr1 : bt (nI 2) 0 2 = 1 := in1 (m := 2) (by decide) (by decide)
  have hTW := RP_TW h.1.1
  have hlen : tn (I 6 3) ≤ 47 ∧ I 6 3 = nI (tn (I 6 3)) := by
    obtain ⟨⟨a1, a2, a3, a4⟩, ⟨b1, b2, b3, b4⟩, ⟨c1, c2, c3, c4⟩⟩ := hTW
    first | exact ⟨a1, a2⟩ | exact ⟨b1, b2⟩ | exact ⟨c1, c2⟩
  obtain ⟨hl1, hl2⟩ := hlen
  generalize hl : tn (I 6 3) = l at hl1 hl2
  by_cases hz : l = 0
  · refine mkI (v := -3) (I1 := I) (J1 := J) h (fun Q => ?_) (Tr_refl I) (fun M J hM => ⟨M, fun Q => ?_, hM, Fr_refl M⟩)
    · have hz0 : I 6 3 = 0 := by rw [hl2, hz]; rfl
      simp (disch := first | assumption | omega | (simp (disch := omega) only [zr_n, zr_s]; assumption)) only [x39_0, x39_1, x39_2, x39_5, x39_8, x39_10, x39_11, x39_12_0, x39_15, x39_16, x39_17, x39_18, x39_19_2, x39_19_4, x39_19_6, x39_22, x39_25, x39_27, x39_28, x39_29i, x39_29r, x39_30_2, x39_30_4, x39_30_6, x39_33, x39_34, x39_35_2, x39_35_4, x39_35_6, x39_38, x39_39, x39_42, x39_43_2, x39_43_4, x39_43_6, x39_46, gc_0, br_1, aa_1_0, aa_1_1, aa_1_2, gc_6, ↓reduceIte, zkl_i, zkl_r, zkl_n, zkl_z, zkl_l, Option.toList_some, Option.toList_none, List.cons_append, List.nil_append, zcs_0, zcs_i, zcs_l, zcs_r, zle8, true_and, and_true, true_or, or_true, c_below, hc1, i1_0, if_false, ixN_nI, nI_clamp, hz0, if_true]
    · have hm1 : M 71 2 = 0 := by rw [hM.2.2.1.1, hl2, hz]; rfl
      simp (disch := first | assumption | omega | (simp (disch := omega) only [zr_n, zr_s]; assumption)) only [x116_0, x116_1, x116_4, x116_7, x116_9, x116_10, x116_11_65, x116_14, x116_15, x116_16, x116_19, x116_21, x116_22, x116_23_65, x116_26, x116_27, x116_28, x116_29, x116_30, x116_31, x116_32, x116_33_65, x116_36, x116_37, x116_38, bi_71, bs_71, ↓reduceIte, zkl_i, zkl_r, zkl_n, zkl_z, zkl_l, Option.toList_some, Option.toList_none, List.cons_append, List.nil_append, zcs_0, zcs_i, zcs_l, zcs_r, zle8, true_and, and_true, true_or, or_true, m_isText, hr1, i1_0, if_false, ixN_nI, nI_clamp, hm1, if_true]
  · obtain ⟨d, rfl⟩ : ∃ d, l = d + 1 := ⟨l - 1, by omega⟩
    have hX : TW (zr I 6 (upd (I 6) 3 (nI d))) := by
      obtain ⟨⟨a1, a2, a3, a4⟩, ⟨b1, b2, b3, b4⟩, ⟨c1, c2, c3, c4⟩⟩ := hTW
      have tl : tn (nI d) = d := nI_clamp (by omega)
      unfold TW
      simp (disch := omega) only [zr_n, zr_s, upd_n, upd_s, tl]
      first | exact ⟨⟨by omega, trivial, a3, fun j hj => a4 j (by omega)⟩, ⟨b1, b2, b3, b4⟩, ⟨c1, c2, c3, c4⟩⟩ | exact ⟨⟨a1, a2, a3, a4⟩, ⟨by omega, trivial, b3, fun j hj => b4 j (by omega)⟩, ⟨c1, c2, c3, c4⟩⟩ | exact ⟨⟨a1, a2, a3, a4⟩, ⟨b1, b2, b3, b4⟩, ⟨by omega, trivial, c3, fun j hj => c4 j (by omega)⟩⟩
    have h8 : zr I 6 (upd (I 6) 3 (nI d)) 8 = I 8 := by simp (disch := omega) only [zr_n]
    have h1000 : zr I 6 (upd (I 6) 3 (nI d)) 1000 = I 1000 := by simp (disch := omega) only [zr_n]
    have hst := fun Q => c_settle (xl := xl) (J := J) (Q := Q) hX (by rw [h8]; exact h.1.1.2.2.2.1) (by rw [h8]; exact h.1.1.2.2.2.2.1) (by unfold HD; rw [h1000]; exact h.1.1.2.2.2.2.2)
    have nz : ¬ nI (d + 1) = 0 := nI_ne0 (by omega) (by omega)
    refine mkU (v := nI d) (I1 := zps 18 8 (ztt (zr I 6 (upd (I 6) 3 (nI d))))) h (fun Q => ?_) (RC_set h.1 hX h8 h1000 (fun c c1 c2 => by simp (disch := omega) only [zr_n])) (fun c hc => by rw [set_f (by omega)]; simp (disch := omega) only [zr_n]) (fun M J hM => ?_)
    · have e3 : zps 18 8 (ztt (zr I 6 (upd (I 6) 3 (nI d)))) 6 3 = nI d := by
        rw [set_f (by omega), zr_s, upd_s]
      simp (disch := first | assumption | omega | (simp (disch := omega) only [zr_n, zr_s]; assumption)) only [x39_0, x39_1, x39_2, x39_5, x39_8, x39_10, x39_11, x39_12_0, x39_15, x39_16, x39_17, x39_18, x39_19_2, x39_19_4, x39_19_6, x39_22, x39_25, x39_27, x39_28, x39_29i, x39_29r, x39_30_2, x39_30_4, x39_30_6, x39_33, x39_34, x39_35_2, x39_35_4, x39_35_6, x39_38, x39_39, x39_42, x39_43_2, x39_43_4, x39_43_6, x39_46, gc_0, br_1, aa_1_0, aa_1_1, aa_1_2, gc_6, ↓reduceIte, zkl_i, zkl_r, zkl_n, zkl_z, zkl_l, Option.toList_some, Option.toList_none, List.cons_append, List.nil_append, zcs_0, zcs_i, zcs_l, zcs_r, zle8, true_and, and_true, true_or, or_true, c_below, hc1, i1_0, if_false, ixN_nI, nI_clamp, hl2, nz, nI_pred, hst, e3]
    · have hM0 := hM
      have hm1 : M 71 2 = nI (d + 1) := hM.2.2.1.1.trans hl2
      refine ⟨zr M 71 (upd (M 71) 2 (nI d)), fun Q => ?_, ?_, fun c hc => by simp (disch := omega) only [zr_n]⟩
      · simp (disch := first | assumption | omega | (simp (disch := omega) only [zr_n, zr_s]; assumption)) only [x116_0, x116_1, x116_4, x116_7, x116_9, x116_10, x116_11_65, x116_14, x116_15, x116_16, x116_19, x116_21, x116_22, x116_23_65, x116_26, x116_27, x116_28, x116_29, x116_30, x116_31, x116_32, x116_33_65, x116_36, x116_37, x116_38, bi_71, bs_71, ↓reduceIte, zkl_i, zkl_r, zkl_n, zkl_z, zkl_l, Option.toList_some, Option.toList_none, List.cons_append, List.nil_append, zcs_0, zcs_i, zcs_l, zcs_r, zle8, true_and, and_true, true_or, or_true, m_isText, hr1, i1_0, if_false, ixN_nI, nI_clamp, hm1, nz, nI_pred, zr_s, upd_s]
      · obtain ⟨m0, m1, m2, -⟩ := hM
        have e71 : ∀ t, t ≠ 2 → zr M 71 (upd (M 71) 2 (nI d)) 71 t = M 71 t := fun t ht => by rw [zr_s, upd_n ht]
        have e70 : zr M 71 (upd (M 71) 2 (nI d)) 70 = M 70 := by rw [zr_n (by decide)]
        have e71y : zr M 71 (upd (M 71) 2 (nI d)) 71 2 = nI d := by rw [zr_s, upd_s]
        refine RM_set (X := zr I 6 (upd (I 6) 3 (nI d))) hM0 ?_ ?_ ?_ h8 (fun c hc => by simp (disch := omega) only [zr_n]) (fun c c1 c2 c3 => by simp (disch := omega) only [zr_n])
        · first
            | exact TXM_cut (l := d) (by rw [zr_s, upd_s]) (by rw [zr_n (by decide)]) (by omega) (by omega) m0 e71y e70
            | exact TXM_same (by simp (disch := omega) only [zr_n]) (by simp (disch := omega) only [zr_n]) m0 (e71 _ (by decide)) (fun j hj => by rw [e70])
        · first
            | exact TXM_cut (l := d) (by rw [zr_s, upd_s]) (by rw [zr_n (by decide)]) (by omega) (by omega) m1 e71y e70
            | exact TXM_same (by simp (disch := omega) only [zr_n]) (by simp (disch := omega) only [zr_n]) m1 (e71 _ (by decide)) (fun j hj => by rw [e70])
        · first
            | exact TXM_cut (l := d) (by rw [zr_s, upd_s]) (by rw [zr_n (by decide)]) (by omega) (by omega) m2 e71y e70
            | exact TXM_same (by simp (disch := omega) only [zr_n]) (by simp (disch := omega) only [zr_n]) m2 (e71 _ (by decide)) (fun j hj => by rw [e70])
theorem k_type (h : Inv I) : KI xl 37 114 [.ref 0, .int a, .int b, .null] [.ref 65, .int a, .int b] I J := by
  by_cases ha : IN a 3
  · obtain ⟨k, hk, rfl⟩ := ha
    by_cases hb : IN b 256
    · obtain ⟨q, hq, rfl⟩ := hb
      rcases nlt_3' hk with rfl | rfl | rfl
      · exact k_type_2 h hq
      · exact k_type_4 h hq
      · exact k_type_6 h hq
    · have hc1 : (if nI k < 0 then (0 : Int32) else if nI k < 3 then 1 else 0) = 1 := bl1 (n := 3) hk (by decide)
      have hr1 : bt (nI k) 0 2 = 1 := in1 (m := 2) (by omega) (by decide)
      have hc2 : (if b < 0 then (0 : Int32) else if b < 256 then 1 else 0) = 0 := bl0 (n := 256) (by decide) hb
      have hr2 : (if b < 0 then (0 : Int32) else if 255 < b then 0 else 1) = 0 := in0 (m := 255) (by decide) hb
      refine mkI (v := -2) (I1 := I) (J1 := J) h (fun Q => by simp (disch := first | assumption | omega | (simp (disch := omega) only [zr_n, zr_s]; assumption)) only [x37_0, x37_1, x37_2, x37_5, x37_8, x37_9, x37_12, x37_15, x37_18, x37_20, x37_21, x37_22_0, x37_25, x37_26, x37_27, x37_28, x37_29_2, x37_29_4, x37_29_6, x37_32, x37_33_2, x37_33_4, x37_33_6, x37_36, x37_37, x37_40, x37_42, x37_43, x37_44_2, x37_44_4, x37_44_6, x37_47, x37_48_2, x37_48_4, x37_48_6, x37_51, x37_52, x37_53, x37_54i, x37_54r, x37_55_2, x37_55_4, x37_55_6, x37_58, x37_59, x37_60_2, x37_60_4, x37_60_6, x37_63, x37_64, x37_67, x37_68_2, x37_68_4, x37_68_6, x37_71, ↓reduceIte, zkl_i, zkl_r, zkl_n, zkl_z, zkl_l, Option.toList_some, Option.toList_none, List.cons_append, List.nil_append, zcs_0, zcs_i, zcs_l, zcs_r, zle8, true_and, and_true, true_or, or_true, c_below, hc1, hc2, i1_0, if_true, if_false]) (Tr_refl I) (fun M J hM => ⟨M, fun Q => ?_, hM, Fr_refl M⟩)
      simp (disch := first | assumption | omega | (simp (disch := omega) only [zr_n, zr_s]; assumption)) only [x114_0, x114_1, x114_4, x114_7, x114_8, x114_9, x114_10, x114_13, x114_16, x114_19, x114_21, x114_22, x114_23_65, x114_26, x114_27, x114_28, x114_29, x114_32, x114_34, x114_37, x114_38, x114_39, x114_42, x114_44, x114_47, x114_49, x114_52, x114_54, x114_55, x114_56_65, x114_59, x114_61, x114_62, x114_63, x114_64_65, x114_67, x114_68, x114_69, x114_70, x114_71, x114_72, x114_73_65, x114_76, x114_77, x114_78, x114_79, x114_80, x114_81, x114_82, x114_83_65, x114_86, x114_87, x114_88, ↓reduceIte, zkl_i, zkl_r, zkl_n, zkl_z, zkl_l, Option.toList_some, Option.toList_none, List.cons_append, List.nil_append, zcs_0, zcs_i, zcs_l, zcs_r, zle8, true_and, and_true, true_or, or_true, m_isText, hr1, i1_0, if_false, m_in, k64_0, k64_255, i64_lt, hr2, if_true]
  · have hc1 : (if a < 0 then (0 : Int32) else if a < 3 then 1 else 0) = 0 := bl0 (n := 3) (by decide) ha
    have hr1 : bt a 0 2 = 0 := in0 (m := 2) (by decide) ha
    refine mkI (v := -2) (I1 := I) (J1 := J) h (fun Q => by simp (disch := first | assumption | omega | (simp (disch := omega) only [zr_n, zr_s]; assumption)) only [x37_0, x37_1, x37_2, x37_5, x37_8, x37_9, x37_12, x37_15, x37_18, x37_20, x37_21, x37_22_0, x37_25, x37_26, x37_27, x37_28, x37_29_2, x37_29_4, x37_29_6, x37_32, x37_33_2, x37_33_4, x37_33_6, x37_36, x37_37, x37_40, x37_42, x37_43, x37_44_2, x37_44_4, x37_44_6, x37_47, x37_48_2, x37_48_4, x37_48_6, x37_51, x37_52, x37_53, x37_54i, x37_54r, x37_55_2, x37_55_4, x37_55_6, x37_58, x37_59, x37_60_2, x37_60_4, x37_60_6, x37_63, x37_64, x37_67, x37_68_2, x37_68_4, x37_68_6, x37_71, ↓reduceIte, zkl_i, zkl_r, zkl_n, zkl_z, zkl_l, Option.toList_some, Option.toList_none, List.cons_append, List.nil_append, zcs_0, zcs_i, zcs_l, zcs_r, zle8, true_and, and_true, true_or, or_true, c_below, hc1, if_true]) (Tr_refl I) (fun M J hM => ⟨M, fun Q => ?_, hM, Fr_refl M⟩)
    simp (disch := first | assumption | omega | (simp (disch := omega) only [zr_n, zr_s]; assumption)) only [x114_0, x114_1, x114_4, x114_7, x114_8, x114_9, x114_10, x114_13, x114_16, x114_19, x114_21, x114_22, x114_23_65, x114_26, x114_27, x114_28, x114_29, x114_32, x114_34, x114_37, x114_38, x114_39, x114_42, x114_44, x114_47, x114_49, x114_52, x114_54, x114_55, x114_56_65, x114_59, x114_61, x114_62, x114_63, x114_64_65, x114_67, x114_68, x114_69, x114_70, x114_71, x114_72, x114_73_65, x114_76, x114_77, x114_78, x114_79, x114_80, x114_81, x114_82, x114_83_65, x114_86, x114_87, x114_88, ↓reduceIte, zkl_i, zkl_r, zkl_n, zkl_z, zkl_l, Option.toList_some, Option.toList_none, List.cons_append, List.nil_append, zcs_0, zcs_i, zcs_l, zcs_r, zle8, true_and, and_true, true_or, or_true, m_isText, hr1, if_true]
theorem k_wipe (h : Inv I) : KI xl 38 115 [.ref 0, .int a, .null] [.ref 65, .int a, .null] I J := by
  by_cases ha : IN a 3
  · obtain ⟨k, hk, rfl⟩ := ha
    rcases nlt_3' hk with rfl | rfl | rfl
    · exact k_wipe_2 h
    · exact k_wipe_4 h
    · exact k_wipe_6 h
  · have hc1 : (if a < 0 then (0 : Int32) else if a < 3 then 1 else 0) = 0 := bl0 (n := 3) (by decide) ha
    have hr1 : bt a 0 2 = 0 := in0 (m := 2) (by decide) ha
    refine mkI (v := -2) (I1 := I) (J1 := J) h (fun Q => by simp (disch := first | assumption | omega | (simp (disch := omega) only [zr_n, zr_s]; assumption)) only [x38_0, x38_1, x38_2, x38_5, x38_8, x38_10, x38_11, x38_12_0, x38_15, x38_16, x38_17_2, x38_17_4, x38_17_6, x38_20, x38_21, x38_22_0, x38_25, x38_26, x38_27, x38_28_2, x38_28_4, x38_28_6, x38_31, x38_32, x38_35, x38_36, ↓reduceIte, zkl_i, zkl_r, zkl_n, zkl_z, zkl_l, Option.toList_some, Option.toList_none, List.cons_append, List.nil_append, zcs_0, zcs_i, zcs_l, zcs_r, zle8, true_and, and_true, true_or, or_true, c_below, hc1, if_true]) (Tr_refl I) (fun M J hM => ⟨M, fun Q => ?_, hM, Fr_refl M⟩)
    simp (disch := first | assumption | omega | (simp (disch := omega) only [zr_n, zr_s]; assumption)) only [x115_0, x115_1, x115_4, x115_7, x115_9, x115_10, x115_11_65, x115_14, x115_15, x115_16, x115_17, x115_18_65, x115_21, x115_22, x115_23, x115_24, x115_25, ↓reduceIte, zkl_i, zkl_r, zkl_n, zkl_z, zkl_l, Option.toList_some, Option.toList_none, List.cons_append, List.nil_append, zcs_0, zcs_i, zcs_l, zcs_r, zle8, true_and, and_true, true_or, or_true, m_isText, hr1, if_true]
theorem k_undo (h : Inv I) : KI xl 39 116 [.ref 0, .int a, .null] [.ref 65, .int a] I J := by
  by_cases ha : IN a 3
  · obtain ⟨k, hk, rfl⟩ := ha
    rcases nlt_3' hk with rfl | rfl | rfl
    · exact k_undo_2 h
    · exact k_undo_4 h
    · exact k_undo_6 h
  · have hc1 : (if a < 0 then (0 : Int32) else if a < 3 then 1 else 0) = 0 := bl0 (n := 3) (by decide) ha
    have hr1 : bt a 0 2 = 0 := in0 (m := 2) (by decide) ha
    refine mkI (v := -2) (I1 := I) (J1 := J) h (fun Q => by simp (disch := first | assumption | omega | (simp (disch := omega) only [zr_n, zr_s]; assumption)) only [x39_0, x39_1, x39_2, x39_5, x39_8, x39_10, x39_11, x39_12_0, x39_15, x39_16, x39_17, x39_18, x39_19_2, x39_19_4, x39_19_6, x39_22, x39_25, x39_27, x39_28, x39_29i, x39_29r, x39_30_2, x39_30_4, x39_30_6, x39_33, x39_34, x39_35_2, x39_35_4, x39_35_6, x39_38, x39_39, x39_42, x39_43_2, x39_43_4, x39_43_6, x39_46, ↓reduceIte, zkl_i, zkl_r, zkl_n, zkl_z, zkl_l, Option.toList_some, Option.toList_none, List.cons_append, List.nil_append, zcs_0, zcs_i, zcs_l, zcs_r, zle8, true_and, and_true, true_or, or_true, c_below, hc1, if_true]) (Tr_refl I) (fun M J hM => ⟨M, fun Q => ?_, hM, Fr_refl M⟩)
    simp (disch := first | assumption | omega | (simp (disch := omega) only [zr_n, zr_s]; assumption)) only [x116_0, x116_1, x116_4, x116_7, x116_9, x116_10, x116_11_65, x116_14, x116_15, x116_16, x116_19, x116_21, x116_22, x116_23_65, x116_26, x116_27, x116_28, x116_29, x116_30, x116_31, x116_32, x116_33_65, x116_36, x116_37, x116_38, ↓reduceIte, zkl_i, zkl_r, zkl_n, zkl_z, zkl_l, Option.toList_some, Option.toList_none, List.cons_append, List.nil_append, zcs_0, zcs_i, zcs_l, zcs_r, zle8, true_and, and_true, true_or, or_true, m_isText, hr1, if_true]
end

/-! ===== the class: what was seen; keenness, sorts, the next minute ===== -/
def SG (I : zI) : Prop := I 48 0 = nI (tn (I 48 0)) ∧ tn (I 48 0) ≤ 8 ∧ ∀ k, k < tn (I 48 0) → ixN (I 50 k) 10
def coF (m l c : Nat → Int32) (D : zI) : Nat → Nat → Int32
  | 0, _ => 1
  | d + 1, k => if l k < D 28 0 then (if (if Nt D 39 (tn (l k)) = -1 then (0 : Int32) else if m k < Nt D 40 (tn (l k)) then 0 else 1) = (if c k = 1 then 1 else 0) then coF m l c D d (k + 1) else 0) else 0
def coD (I D : zI) : Int32 := coF (I 49) (I 50) (I 51) D (tn (I 48 0)) 0
theorem co_eq {X D : zI} {n : Nat} (h : CN 38 28 X D) (hl : ∀ k, k < n → ixN (X 50 k) 10) : ∀ (d k : Nat), k + d = n → sp_co X d k = coF (X 49) (X 50) (X 51) D d k := by
  intro d
  induction d with
  | zero => intro k _; rfl
  | succ d ih =>
    intro k hk
    have ht := ixN_tn (hl k (by omega)) (by decide)
    rw [sp_co, coF, ih (k + 1) (by omega), h.2.1, show X 39 (tn (X 50 k)) = Nt D 39 (tn (X 50 k)) from (h.2.2.1 _ ht).1, show X 40 (tn (X 50 k)) = Nt D 40 (tn (X 50 k)) from (h.2.2.1 _ ht).2.1]
theorem Tr_SG {I X : zI} (hT : Tr I X) (h : SG I) : SG X := by
  unfold SG
  rw [hT 48 (by omega), hT 50 (by omega)]
  exact h
theorem CN_f {X X' D : zI} (h : ∀ c, 28 ≤ c → c ≤ 47 → X' c = X c) (h2 : X' 1000 = X 1000) (g : CN 38 28 X D) : CN 38 28 X' D := by
  refine ⟨CD_f (fun c c1 c2 => h c c1 (by omega)) h2 g.1, ?_, ?_⟩
  · rw [h 38 (by omega) (by omega)]; exact g.2.1
  · unfold NEq
    rw [h (38 + 1) (by omega) (by omega), h (38 + 2) (by omega) (by omega), h (38 + 3) (by omega) (by omega), h (38 + 4) (by omega) (by omega), h (38 + 5) (by omega) (by omega), h (38 + 6) (by omega) (by omega), h (38 + 7) (by omega) (by omega), h (38 + 8) (by omega) (by omega), h (38 + 9) (by omega) (by omega)]
    exact g.2.2
def nvF (I D : zI) : Int32 := fo (fun k s => if coD I (da D (1 <<< (nI k &&& 31))) = 0 then s else s ||| 1 <<< (nI k &&& 31)) (tn (D 28 9)) 0 0
def knF (I D : zI) (q : Nat) : Int32 := fo (fun k s => if coD I (ds D q (nI k)) = 0 then s else s ||| 1 <<< (nI k &&& 31)) 3 0 0
def kpF (I D : zI) (q : Nat) : Int32 := fo (fun k s => if coD I (dk D q (nI k)) = 0 then s else s ||| 1 <<< (nI k &&& 31)) 9 1 0
/-- how many are alike with a -/
def gaI (p : Int32) (f : Nat → Int32) (a : Nat) : Int32 := fo (fun b s => if p >>> (nI a &&& 31) &&& p >>> (nI b &&& 31) &&& 1 = 1 then (if f a = f b then s + 1 else s) else s) 9 1 0
def gaF (p : Int32) (f : Nat → Int32) : Int32 := fo (fun a g => if g < gaI p f a then gaI p f a else g) 9 1 0
theorem fo_cgr {α : Type} {f g : Nat → α → α} : ∀ (d k : Nat) (s : α), (∀ j s, k ≤ j → j < k + d → f j s = g j s) → fo f d k s = fo g d k s := by
  intro d
  induction d with
  | zero => intro k s _; rfl
  | succ d ih =>
    intro k s h
    rw [fo, fo, h k s (Nat.le_refl _) (by omega)]
    exact ih (k + 1) (g k s) (fun j s a b => h j s (by omega) (by omega))
theorem gaF_c {p : Int32} {f g : Nat → Int32} (h : ∀ a, 1 ≤ a → a < 10 → f a = g a) : gaF p f = gaF p g := by
  unfold gaF
  refine fo_cgr 9 1 0 (fun j s j1 j2 => ?_)
  have e : gaI p f j = gaI p g j := by
    unfold gaI
    refine fo_cgr 9 1 0 (fun b s b1 b2 => ?_)
    rw [h j j1 (by omega), h b b1 (by omega)]
  rw [e]
def asF (G : Nat → Int32) : Int32 := (fo (fun m (x : Int32 × Int32) => if G m < x.2 then (nI m, G m) else x) 24 0 (0, 10)).1
theorem nlt_3 {k : Nat} (h : k < 2 ^ 31) : (nI k < 3) = (k < 3) := propext (nI_ltI h (by decide))
theorem nlt_24 {k : Nat} (h : k < 2 ^ 31) : (nI k < 24) = (k < 24) := propext (nI_ltI h (by decide))
theorem ngt_9 {k : Nat} (h : k < 2 ^ 31) : (9 < nI k) = (9 < k) := propext (nI_ltI (a := 9) (by decide) h)
section
variable {xl : Nat} {J : zJ} {I X D D' : zI}
theorem d_comeOut {Q : zQ} (hS : SG I) (hT : Tr I X) (h : CN 38 28 X D') : Rn (zG xl) 29 0 [.ref 48, .ref 38, .null, .null] [] X J Q = Q (some (.int (coD I D'))) X J := by
  obtain ⟨s1, s2, s3⟩ := Tr_SG hT hS
  rw [c_comeOut s1 s2 s3, co_eq h s3 _ 0 (Nat.zero_add _), coD, hT 48 (by omega), hT 49 (by omega), hT 50 (by omega), hT 51 (by omega)]
theorem c_never (h : CD 8 I D) (hS : SG I) : ∃ X : zI, (∀ Q : zQ, Rn (zG xl) 61 0 [.ref 0, .null, .null] [] I J Q = Q (some (.int (nvF I D))) X J) ∧ Tr I X := by
  obtain ⟨b0, -, b3, -, b6, -, b9, -⟩ := Pk_l h.2.1
  obtain ⟨X, g1, g2⟩ := lpE (R := fun k s (v : Unit) X Q => Rn (zG xl) 61 15 [.ref 0, .int s, .int (nI k)] [] X J Q) (E := fun s X Q => Q (some (.int s)) X J) (f := fun k s => if coD I (da D (1 <<< (nI k &&& 31))) = 0 then s else s ||| 1 <<< (nI k &&& 31)) (n := tn (D 28 9)) (P := fun k s X => (∃ v, CD 28 X (da D v)) ∧ Tr I X) (P' := fun s X => Tr I X) (fun k s v X hk hP => by
    obtain ⟨⟨v, p1⟩, p2⟩ := hP
    obtain ⟨e0, e3, e6, e9⟩ := CD_8 h p2
    have h1 : CD 28 (da X (1 <<< (nI k &&& 31))) (da D (1 <<< (nI k &&& 31))) := by
      have := CD_da (v := 1 <<< (nI k &&& 31)) p1
      rw [da_da] at this
      exact this
    have hN : CN 38 28 (zps 38 28 (da X (1 <<< (nI k &&& 31)))) (da D (1 <<< (nI k &&& 31))) := CN_pass (by decide) (by decide) h1
    have hT2 : Tr I (zps 38 28 (da X (1 <<< (nI k &&& 31)))) := Tr_zps (Tr_zr (by omega) p2)
    have hd1 := fun Q => d_pass_38 (xl := xl) (J := J) (Q := Q) h1
    have hd2 := fun Q => d_comeOut (xl := xl) (J := J) (Q := Q) hS hT2 hN
    refine ⟨(), zps 38 28 (da X (1 <<< (nI k &&& 31))), fun Q => ?_, ⟨_, hN.1⟩, hT2⟩
    show Rn _ _ _ _ _ _ _ _ = Rn _ _ _ _ _ _ _ _
    rw [h61_15]
    rw [show da X (1 <<< (nI k &&& 31)) = zr X 28 (upd (X 28) 13 (1 <<< (nI k &&& 31))) from rfl] at hd1 hd2
    simp (disch := first | assumption | omega | (simp (disch := omega) only [zr_n, zr_s]; assumption)) only [x61_16, x61_17_0, x61_20_8, x61_20_28, x61_23, x61_26, x61_27_0, x61_30, x61_31, x61_32, x61_33_8, x61_33_28, x61_36, x61_37_0, x61_40, x61_41_0, x61_44, x61_47, x61_48_0, x61_51, x61_52_0, x61_55, x61_58, x61_61, x61_62, x61_63, x61_64, x61_65, x61_66, x61_67, x61_70, gc_38, gc_28, gc_48, ↓reduceIte, zkl_i, zkl_r, zkl_n, zkl_z, zkl_l, Option.toList_some, Option.toList_none, List.cons_append, List.nil_append, zcs_0, zcs_i, zcs_l, zcs_r, zle8, true_and, and_true, true_or, or_true, e9, nI_ltI, hk, if_true, hd1, hd2, na_1]
    by_cases hz : coD I (da D (1 <<< (nI k &&& 31))) = 0
    · simp only [hz, if_true]
      rfl
    · simp only [hz, if_false]
      rfl) (fun s v X hP => by
    obtain ⟨⟨v, p1⟩, p2⟩ := hP
    obtain ⟨e0, e3, e6, e9⟩ := CD_8 h p2
    refine ⟨X, fun Q => ?_, p2⟩
    show Rn _ _ _ _ _ _ _ _ = _
    rw [h61_15]
    simp (disch := first | assumption | omega | (simp (disch := omega) only [zr_n, zr_s]; assumption)) only [x61_16, x61_17_0, x61_20_8, x61_20_28, x61_23, x61_26, x61_27_0, x61_30, x61_31, x61_32, x61_33_8, x61_33_28, x61_36, x61_37_0, x61_40, x61_41_0, x61_44, x61_47, x61_48_0, x61_51, x61_52_0, x61_55, x61_58, x61_61, x61_62, x61_63, x61_64, x61_65, x61_66, x61_67, x61_70, x61_73, x61_74, ↓reduceIte, zkl_i, zkl_r, zkl_n, zkl_z, zkl_l, Option.toList_some, Option.toList_none, List.cons_append, List.nil_append, zcs_0, zcs_i, zcs_l, zcs_r, zle8, true_and, and_true, true_or, or_true, e9, nI_ltI, Nat.lt_irrefl, if_false]) (tn (D 28 9)) 0 0 () (ztf I) (Nat.zero_add _) ⟨⟨D 28 13, by rw [da_id]; exact CD_ztf h⟩, Tr_ztf⟩
  refine ⟨X, fun Q => ?_, g2⟩
  rw [nvF, ← g1 Q]
  simp (disch := first | assumption | omega | (simp (disch := omega) only [zr_n, zr_s]; assumption)) only [x61_0, x61_1_0, x61_4, x61_5_0, x61_8, x61_11, x61_12, x61_13, x61_14, gc_8, gc_28, ↓reduceIte, zkl_i, zkl_r, zkl_n, zkl_z, zkl_l, Option.toList_some, Option.toList_none, List.cons_append, List.nil_append, zcs_0, zcs_i, zcs_l, zcs_r, zle8, true_and, and_true, true_or, or_true, c_takeFrom]
  rfl
theorem c_kind {q : Nat} (h : CD 8 I D) (hS : SG I) (hq : q < tn (D 28 0)) : ∃ X : zI, (∀ Q : zQ, Rn (zG xl) 63 0 [.ref 0, .int (nI q), .null, .null] [] I J Q = Q (some (.int (knF I D q))) X J) ∧ Tr I X := by
  obtain ⟨b0, -, b3, -, b6, -, b9, -⟩ := Pk_l h.2.1
  obtain ⟨X, g1, g2⟩ := lpE (R := fun k s (v : Unit) X Q => Rn (zG xl) 63 32 [.ref 0, .int (nI q), .int s, .int (nI k)] [] X J Q) (E := fun s X Q => Q (some (.int s)) X J) (f := fun k s => if coD I (ds D q (nI k)) = 0 then s else s ||| 1 <<< (nI k &&& 31)) (n := 3) (P := fun k s X => (∃ v, CD 28 X (ds D q v)) ∧ Tr I X) (P' := fun s X => Tr I X) (fun k s v X hk hP => by
    obtain ⟨⟨v, p1⟩, p2⟩ := hP
    have h1 : CD 28 (ds X q (nI k)) (ds D q (nI k)) := by
      have := CD_ds (k := q) (v := nI k) (by rw [ixN_nI hk (by decide)]; trivial) p1
      rw [ds_ds] at this
      exact this
    have hN : CN 38 28 (zps 38 28 (ds X q (nI k))) (ds D q (nI k)) := CN_pass (by decide) (by decide) h1
    have hT2 : Tr I (zps 38 28 (ds X q (nI k))) := Tr_zps (Tr_zr (by omega) p2)
    have hd1 := fun Q => d_pass_38 (xl := xl) (J := J) (Q := Q) h1
    have hd2 := fun Q => d_comeOut (xl := xl) (J := J) (Q := Q) hS hT2 hN
    refine ⟨(), zps 38 28 (ds X q (nI k)), fun Q => ?_, ⟨_, hN.1⟩, hT2⟩
    show Rn _ _ _ _ _ _ _ _ = Rn _ _ _ _ _ _ _ _
    rw [h63_32]
    rw [show ds X q (nI k) = zr X 29 (upd (X 29) q (nI k)) from rfl] at hd1 hd2
    simp (disch := first | assumption | omega | (simp (disch := omega) only [zr_n, zr_s]; assumption)) only [x63_33, x63_34, x63_37, x63_38_0, x63_41_8, x63_41_28, x63_44, x63_45, x63_46, x63_47, x63_48_0, x63_51, x63_52_0, x63_55, x63_58, x63_59_0, x63_62, x63_63_0, x63_66, x63_69, x63_72, x63_73, x63_74, x63_75, x63_76, x63_77, x63_78, x63_81, gc_38, gc_28, gc_48, bi_29, bs_29, ↓reduceIte, zkl_i, zkl_r, zkl_n, zkl_z, zkl_l, Option.toList_some, Option.toList_none, List.cons_append, List.nil_append, zcs_0, zcs_i, zcs_l, zcs_r, zle8, true_and, and_true, true_or, or_true, nlt_3, hk, if_true, ixN_nI, nI_clamp, hd1, hd2, na_1]
    by_cases hz : coD I (ds D q (nI k)) = 0
    · simp only [hz, if_true]
      rfl
    · simp only [hz, if_false]
      rfl) (fun s v X hP => by
    obtain ⟨⟨v, p1⟩, p2⟩ := hP
    refine ⟨X, fun Q => ?_, p2⟩
    show Rn _ _ _ _ _ _ _ _ = _
    rw [h63_32]
    simp (disch := first | assumption | omega | (simp (disch := omega) only [zr_n, zr_s]; assumption)) only [x63_33, x63_34, x63_37, x63_38_0, x63_41_8, x63_41_28, x63_44, x63_45, x63_46, x63_47, x63_48_0, x63_51, x63_52_0, x63_55, x63_58, x63_59_0, x63_62, x63_63_0, x63_66, x63_69, x63_72, x63_73, x63_74, x63_75, x63_76, x63_77, x63_78, x63_81, x63_84, x63_85, ↓reduceIte, zkl_i, zkl_r, zkl_n, zkl_z, zkl_l, Option.toList_some, Option.toList_none, List.cons_append, List.nil_append, zcs_0, zcs_i, zcs_l, zcs_r, zle8, true_and, and_true, true_or, or_true, nlt_3, Nat.lt_irrefl, if_false]) 3 0 0 () (ztf I) rfl ⟨⟨D 29 q, by rw [ds_id]; exact CD_ztf h⟩, Tr_ztf⟩
  refine ⟨X, fun Q => ?_, g2⟩
  obtain ⟨e0, e3, e6, e9⟩ := CD_8 h (Tr_refl I)
  rw [knF, ← g1 Q]
  have n0 : ¬ nI q < 0 := nI_pos (by omega)
  simp (disch := first | assumption | omega | (simp (disch := omega) only [zr_n, zr_s]; assumption)) only [x63_0, x63_1, x63_2_0, x63_5_8, x63_5_28, x63_8, x63_11, x63_14, x63_16, x63_17, x63_18_0, x63_21, x63_22_0, x63_25, x63_28, x63_29, x63_30, x63_31, gc_8, gc_28, ↓reduceIte, zkl_i, zkl_r, zkl_n, zkl_z, zkl_l, Option.toList_some, Option.toList_none, List.cons_append, List.nil_append, zcs_0, zcs_i, zcs_l, zcs_r, zle8, true_and, and_true, true_or, or_true, c_below, e0, n0, nI_ltI, hq, if_true, if_false, i1_0, c_takeFrom]
  rfl
theorem c_kind_bad {Q : zQ} {a : Int32} (ha : a < 0 ∨ ¬ a < I 8 0) : Rn (zG xl) 63 0 [.ref 0, .int a, .null, .null] [] I J Q = Q (some (.int (-2))) I J := by
  have e : (if a < 0 then (0 : Int32) else if a < I 8 0 then 1 else 0) = 0 := by
    by_cases h1 : a < 0
    · rw [if_pos h1]
    · rw [if_neg h1]
      rcases ha with h2 | h2
      · exact absurd h2 h1
      · rw [if_neg h2]
  simp (disch := first | assumption | omega | (simp (disch := omega) only [zr_n, zr_s]; assumption)) only [x63_0, x63_1, x63_2_0, x63_5_8, x63_5_28, x63_8, x63_11, x63_14, x63_16, x63_17, x63_18_0, x63_21, x63_22_0, x63_25, x63_28, x63_29, x63_30, x63_31, ↓reduceIte, zkl_i, zkl_r, zkl_n, zkl_z, zkl_l, Option.toList_some, Option.toList_none, List.cons_append, List.nil_append, zcs_0, zcs_i, zcs_l, zcs_r, zle8, true_and, and_true, true_or, or_true, c_below, e, if_true]
def MK (D : zI) (q : Nat) (k : Nat) (X : zI) : Prop := ∀ a m, 1 ≤ a → a < k → m < 24 → X 63 (a * 24 + m) = mkD (dk D q (nI a)) (nI m)
theorem c_tryKeens {q : Nat} (h : CD 8 I D) (hS : SG I) (hq : q < tn (D 28 3)) : ∃ X : zI, (∀ Q : zQ, Rn (zG xl) 90 0 [.ref 0, .int (nI q), .null, .null, .null] [] I J Q = Q (some (.int (kpF I D q))) X J) ∧ MK D q 10 X ∧ Tr I X := by
  obtain ⟨b0, -, b3, -, b6, -, b9, -⟩ := Pk_l h.2.1
  have inner : ∀ k, 1 ≤ k → k < 10 → ∀ (s : Int32) (d m : Nat) (u v : Unit) (X : zI), m + d = 24 → (CN 38 28 X (dk D q (nI k)) ∧ Tr I X ∧ MK D q k X ∧ ∀ j, j < m → X 63 (k * 24 + j) = mkD (dk D q (nI k)) (nI j)) → ∃ X', (∀ Q, Rn (zG xl) 90 65 [.ref 0, .int (nI q), .int s, .int (nI k), .int (nI m)] [] X J Q = Rn (zG xl) 90 15 [.ref 0, .int (nI q), .int s, .int (nI (k + 1)), .int (nI 24)] [] X' J Q) ∧ CN 38 28 X' (dk D q (nI k)) ∧ Tr I X' ∧ MK D q (k + 1) X' := by
    intro k hk1 hk2 s
    refine lpE (R := fun m (u v : Unit) X Q => Rn (zG xl) 90 65 [.ref 0, .int (nI q), .int s, .int (nI k), .int (nI m)] [] X J Q) (E := fun (u : Unit) X' Q => Rn (zG xl) 90 15 [.ref 0, .int (nI q), .int s, .int (nI (k + 1)), .int (nI 24)] [] X' J Q) (f := fun _ u => u) (P := fun m (u : Unit) X => CN 38 28 X (dk D q (nI k)) ∧ Tr I X ∧ MK D q k X ∧ ∀ j, j < m → X 63 (k * 24 + j) = mkD (dk D q (nI k)) (nI j)) (P' := fun u X' => CN 38 28 X' (dk D q (nI k)) ∧ Tr I X' ∧ MK D q (k + 1) X') (fun m u v X hm hP => ?_) (fun u v X hP => ?_)
    · obtain ⟨p1, p2, p3, p4⟩ := hP
      refine ⟨(), zr X 63 (upd (X 63) (k * 24 + m) (mkD (dk D q (nI k)) (nI m))), fun Q => ?_, ?_, Tr_zr (by omega) p2, fun a j a1 a2 a3 => ?_, fun j hj => ?_⟩
      · have hd := fun Q => d_markedBy_38 (xl := xl) (J := J) (Q := Q) (m := nI m) p1
        rw [h90_65]
        simp (disch := first | assumption | omega | (simp (disch := omega) only [zr_n, zr_s]; assumption)) only [x90_67, x90_69, x90_72, x90_73_0, x90_76, x90_77, x90_79, x90_80, x90_82, x90_83, x90_84_0, x90_87, x90_89, x90_92, x90_93, x90_96, gc_38, bi_63, bs_63, ↓reduceIte, zkl_i, zkl_r, zkl_n, zkl_z, zkl_l, Option.toList_some, Option.toList_none, List.cons_append, List.nil_append, zcs_0, zcs_i, zcs_l, zcs_r, zle8, true_and, and_true, true_or, or_true, nlt_24, hm, if_true, nm_m24, nI_add, hd, ixN_nI, nI_clamp, na_1]
      · exact CN_f (fun c c1 c2 => zr_n (by omega)) (zr_n (by decide)) p1
      · rw [zr_s, upd_n (by omega)]
        exact p3 a j a1 a2 a3
      · rw [zr_s]
        by_cases e : j = m
        · subst e; rw [upd_s]
        · rw [upd_n (by omega)]; exact p4 j (by omega)
    · obtain ⟨p1, p2, p3, p4⟩ := hP
      refine ⟨X, fun Q => ?_, p1, p2, fun a j a1 a2 a3 => ?_⟩
      · rw [h90_65]
        simp (disch := first | assumption | omega | (simp (disch := omega) only [zr_n, zr_s]; assumption)) only [x90_67, x90_69, x90_72, x90_73_0, x90_76, x90_77, x90_79, x90_80, x90_82, x90_83, x90_84_0, x90_87, x90_89, x90_92, x90_93, x90_96, x90_99, x90_102, ↓reduceIte, zkl_i, zkl_r, zkl_n, zkl_z, zkl_l, Option.toList_some, Option.toList_none, List.cons_append, List.nil_append, zcs_0, zcs_i, zcs_l, zcs_r, zle8, true_and, and_true, true_or, or_true, nlt_24, Nat.lt_irrefl, if_false, na_1]
      · by_cases e : a = k
        · subst e; exact p4 j a3
        · exact p3 a j a1 (by omega) a3
  obtain ⟨X, g1, g2⟩ := lpE (R := fun k s (v : Value) X Q => Rn (zG xl) 90 15 [.ref 0, .int (nI q), .int s, .int (nI k), v] [] X J Q) (E := fun s X Q => Q (some (.int s)) X J) (f := fun k s => if coD I (dk D q (nI k)) = 0 then s else s ||| 1 <<< (nI k &&& 31)) (n := 10) (P := fun k s X => 1 ≤ k ∧ (∃ v, CD 28 X (dk D q v)) ∧ MK D q k X ∧ Tr I X) (P' := fun s X => MK D q 10 X ∧ Tr I X) (fun k s v X hk hP => by
    obtain ⟨p0, ⟨v', p1⟩, p3, p2⟩ := hP
    have h1 : CD 28 (dk X q (nI k)) (dk D q (nI k)) := by
      have := CD_dk (r := q) (v := nI k) p1
      rw [dk_dk] at this
      exact this
    have hN : CN 38 28 (zps 38 28 (dk X q (nI k))) (dk D q (nI k)) := CN_pass (by decide) (by decide) h1
    have hT2 : Tr I (zps 38 28 (dk X q (nI k))) := Tr_zps (Tr_zr (by omega) p2)
    have hM : MK D q k (zps 38 28 (dk X q (nI k))) := by
      intro a m a1 a2 a3
      rw [zps_f (by omega)]
      unfold dk
      rw [zr_n (by decide)]
      exact p3 a m a1 a2 a3
    have hd1 := fun Q => d_pass_38 (xl := xl) (J := J) (Q := Q) h1
    have hd2 := fun Q => d_comeOut (xl := xl) (J := J) (Q := Q) hS hT2 hN
    obtain ⟨X', i1, i2, i3, i4⟩ := inner k p0 hk (if coD I (dk D q (nI k)) = 0 then s else s ||| 1 <<< (nI k &&& 31)) 24 0 () () _ rfl ⟨hN, hT2, hM, fun j hj => by omega⟩
    refine ⟨.int (nI 24), X', fun Q => ?_, by omega, ⟨_, i2.1⟩, i4, i3⟩
    show Rn _ _ _ _ _ _ _ _ = Rn _ _ _ _ _ _ _ _
    rw [← i1 Q, h90_15]
    rw [show dk X q (nI k) = zr X 32 (upd (X 32) q (nI k)) from rfl] at hd1 hd2 ⊢
    have e9 : ¬ 9 < k := by omega
    simp (disch := first | assumption | omega | (simp (disch := omega) only [zr_n, zr_s]; assumption)) only [x90_16, x90_18, x90_21, x90_22_0, x90_25_8, x90_25_28, x90_28, x90_29, x90_30, x90_31, x90_32_0, x90_35, x90_36_0, x90_39, x90_42, x90_43_0, x90_46, x90_47_0, x90_50, x90_53, x90_56, x90_57, x90_58, x90_59, x90_60, x90_61, x90_62, x90_63, gc_38, gc_28, gc_48, bi_32, bs_32, ↓reduceIte, zkl_i, zkl_r, zkl_n, zkl_z, zkl_l, Option.toList_some, Option.toList_none, List.cons_append, List.nil_append, zcs_0, zcs_i, zcs_l, zcs_r, zle8, true_and, and_true, true_or, or_true, ngt_9, e9, if_false, ixN_nI, nI_clamp, hd1, hd2]
    by_cases hz : coD I (dk D q (nI k)) = 0
    · simp only [hz, if_true]
      rfl
    · simp only [hz, if_false]
      rfl) (fun s v X hP => by
    obtain ⟨p0, p1, p3, p2⟩ := hP
    refine ⟨X, fun Q => ?_, p3, p2⟩
    show Rn _ _ _ _ _ _ _ _ = _
    rw [h90_15]
    have e9 : (9 : Int32) < nI 10 := by decide
    simp (disch := first | assumption | omega | (simp (disch := omega) only [zr_n, zr_s]; assumption)) only [x90_16, x90_18, x90_21, x90_22_0, x90_25_8, x90_25_28, x90_28, x90_29, x90_30, x90_31, x90_32_0, x90_35, x90_36_0, x90_39, x90_42, x90_43_0, x90_46, x90_47_0, x90_50, x90_53, x90_56, x90_57, x90_58, x90_59, x90_60, x90_61, x90_62, x90_63, x90_67, x90_69, x90_72, x90_73_0, x90_76, x90_77, x90_79, x90_80, x90_82, x90_83, x90_84_0, x90_87, x90_89, x90_92, x90_93, x90_96, x90_99, x90_102, x90_105, x90_106, ↓reduceIte, zkl_i, zkl_r, zkl_n, zkl_z, zkl_l, Option.toList_some, Option.toList_none, List.cons_append, List.nil_append, zcs_0, zcs_i, zcs_l, zcs_r, zle8, true_and, and_true, true_or, or_true, e9, if_true]) 9 1 0 .null (ztf I) rfl ⟨Nat.le_refl _, ⟨D 32 q, by rw [dk_id]; exact CD_ztf h⟩, fun a m a1 a2 _ => by omega, Tr_ztf⟩
  refine ⟨X, fun Q => ?_, g2⟩
  rw [kpF, ← g1 Q]
  simp (disch := first | assumption | omega | (simp (disch := omega) only [zr_n, zr_s]; assumption)) only [x90_0, x90_1_0, x90_4, x90_5_0, x90_8, x90_11, x90_12, x90_13, x90_14, gc_8, gc_28, ↓reduceIte, zkl_i, zkl_r, zkl_n, zkl_z, zkl_l, Option.toList_some, Option.toList_none, List.cons_append, List.nil_append, zcs_0, zcs_i, zcs_l, zcs_r, zle8, true_and, and_true, true_or, or_true, c_takeFrom]
  rfl
theorem c_alike {Q : zQ} {p : Int32} {m : Nat} (hm : m < 24) : Rn (zG xl) 91 0 [.ref 0, .int p, .int (nI m), .null, .null, .null, .null, .null] [] X J Q = Q (some (.int (gaF p (fun a => X 63 (a * 24 + m))))) X J := by
  have inner : ∀ a, a < 10 → ∀ (g : Int32) (d b : Nat) (s : Int32) (v : Value), b + d = 10 → ∃ v' : Value, ∀ Q : zQ, Rn (zG xl) 91 18 [.ref 0, .int p, .int (nI m), .int g, .int (nI a), .int s, .int (nI b), v] [] X J Q = Rn (zG xl) 91 88 [.ref 0, .int p, .int (nI m), .int g, .int (nI a), .int (fo (fun b s => if p >>> (nI a &&& 31) &&& p >>> (nI b &&& 31) &&& 1 = 1 then (if X 63 (a * 24 + m) = X 63 (b * 24 + m) then s + 1 else s) else s) d b s), .int (nI 10), v'] [] X J Q := by
    intro a ha g d
    induction d with
    | zero =>
      intro b s v hb
      have hb : b = 10 := hb
      subst hb
      refine ⟨v, fun Q => ?_⟩
      have e9 : (9 : Int32) < nI 10 := by decide
      rw [h91_18]
      simp (disch := first | assumption | omega | (simp (disch := omega) only [zr_n, zr_s]; assumption)) only [x91_20, x91_22, ↓reduceIte, zkl_i, zkl_r, zkl_n, zkl_z, zkl_l, Option.toList_some, Option.toList_none, List.cons_append, List.nil_append, zcs_0, zcs_i, zcs_l, zcs_r, zle8, true_and, and_true, true_or, or_true, e9, if_true, fo]
    | succ d ih =>
      intro b s v hb
      have e9 : ¬ 9 < b := by omega
      rw [fo]
      by_cases h1 : p >>> (nI a &&& 31) &&& p >>> (nI b &&& 31) &&& 1 = 1
      · by_cases h2 : X 63 (a * 24 + m) = X 63 (b * 24 + m)
        · obtain ⟨v', hv⟩ := ih (b + 1) (s + 1) (.int 1) (by omega)
          refine ⟨v', fun Q => ?_⟩
          rw [if_pos h1, if_pos h2, ← hv Q, h91_18]
          simp (disch := first | assumption | omega | (simp (disch := omega) only [zr_n, zr_s]; assumption)) only [x91_20, x91_22, x91_25, x91_26, x91_28, x91_29, x91_30, x91_32, x91_33, x91_34, x91_35, x91_36, x91_37, x91_40, x91_41, x91_44, x91_45, x91_47, x91_49, x91_52, x91_53_0, x91_56, x91_58, x91_60, x91_61, x91_62, x91_63, x91_64, x91_65_0, x91_68, x91_70, x91_72, x91_73, x91_74, x91_75, x91_76, x91_79, x91_82, x91_85, bi_63, bs_63, ↓reduceIte, zkl_i, zkl_r, zkl_n, zkl_z, zkl_l, Option.toList_some, Option.toList_none, List.cons_append, List.nil_append, zcs_0, zcs_i, zcs_l, zcs_r, zle8, true_and, and_true, true_or, or_true, ngt_9, e9, if_false, h1, h2, if_true, nm_m24, nI_add, ixN_nI, nI_clamp, na_1, i1_0]
        · obtain ⟨v', hv⟩ := ih (b + 1) s (.int 1) (by omega)
          refine ⟨v', fun Q => ?_⟩
          rw [if_pos h1, if_neg h2, ← hv Q, h91_18]
          simp (disch := first | assumption | omega | (simp (disch := omega) only [zr_n, zr_s]; assumption)) only [x91_20, x91_22, x91_25, x91_26, x91_28, x91_29, x91_30, x91_32, x91_33, x91_34, x91_35, x91_36, x91_37, x91_40, x91_41, x91_44, x91_45, x91_47, x91_49, x91_52, x91_53_0, x91_56, x91_58, x91_60, x91_61, x91_62, x91_63, x91_64, x91_65_0, x91_68, x91_70, x91_72, x91_73, x91_74, x91_75, x91_76, x91_79, x91_82, x91_85, bi_63, bs_63, ↓reduceIte, zkl_i, zkl_r, zkl_n, zkl_z, zkl_l, Option.toList_some, Option.toList_none, List.cons_append, List.nil_append, zcs_0, zcs_i, zcs_l, zcs_r, zle8, true_and, and_true, true_or, or_true, ngt_9, e9, if_false, h1, h2, if_true, nm_m24, nI_add, ixN_nI, nI_clamp, na_1, i1_0]
      · obtain ⟨v', hv⟩ := ih (b + 1) s (.int 0) (by omega)
        refine ⟨v', fun Q => ?_⟩
        rw [if_neg h1, ← hv Q, h91_18]
        simp (disch := first | assumption | omega | (simp (disch := omega) only [zr_n, zr_s]; assumption)) only [x91_20, x91_22, x91_25, x91_26, x91_28, x91_29, x91_30, x91_32, x91_33, x91_34, x91_35, x91_36, x91_37, x91_40, x91_41, x91_44, x91_45, x91_47, x91_49, x91_52, x91_53_0, x91_56, x91_58, x91_60, x91_61, x91_62, x91_63, x91_64, x91_65_0, x91_68, x91_70, x91_72, x91_73, x91_74, x91_75, x91_76, x91_79, x91_82, x91_85, bi_63, bs_63, ↓reduceIte, zkl_i, zkl_r, zkl_n, zkl_z, zkl_l, Option.toList_some, Option.toList_none, List.cons_append, List.nil_append, zcs_0, zcs_i, zcs_l, zcs_r, zle8, true_and, and_true, true_or, or_true, ngt_9, e9, if_false, h1, if_true, nm_m24, nI_add, ixN_nI, nI_clamp, na_1, i1_0]
  have outer : ∀ (d a : Nat) (g : Int32) (v5 v6 v7 : Value), a + d = 10 → Rn (zG xl) 91 5 [.ref 0, .int p, .int (nI m), .int g, .int (nI a), v5, v6, v7] [] X J Q = Q (some (.int (fo (fun a g => if g < gaI p (fun a => X 63 (a * 24 + m)) a then gaI p (fun a => X 63 (a * 24 + m)) a else g) d a g))) X J := by
    intro d
    induction d with
    | zero =>
      intro a g v5 v6 v7 ha
      have ha : a = 10 := ha
      subst ha
      have e9 : (9 : Int32) < nI 10 := by decide
      rw [h91_5]
      simp (disch := first | assumption | omega | (simp (disch := omega) only [zr_n, zr_s]; assumption)) only [x91_7, x91_9, x91_12, x91_13, x91_15, x91_16, x91_20, x91_22, x91_25, x91_26, x91_28, x91_29, x91_30, x91_32, x91_33, x91_34, x91_35, x91_36, x91_37, x91_40, x91_41, x91_44, x91_45, x91_47, x91_49, x91_52, x91_53_0, x91_56, x91_58, x91_60, x91_61, x91_62, x91_63, x91_64, x91_65_0, x91_68, x91_70, x91_72, x91_73, x91_74, x91_75, x91_76, x91_79, x91_82, x91_85, x91_88, x91_89, x91_91, x91_94, x91_95, x91_98, x91_101, x91_102, ↓reduceIte, zkl_i, zkl_r, zkl_n, zkl_z, zkl_l, Option.toList_some, Option.toList_none, List.cons_append, List.nil_append, zcs_0, zcs_i, zcs_l, zcs_r, zle8, true_and, and_true, true_or, or_true, e9, if_true, fo]
    | succ d ih =>
      intro a g v5 v6 v7 ha
      have e9 : ¬ 9 < a := by omega
      obtain ⟨v', hv⟩ := inner a (by omega) g 9 1 0 v7 rfl
      rw [fo, ← ih (a + 1) _ (.int (gaI p (fun a => X 63 (a * 24 + m)) a)) (.int (nI 10)) v' (by omega), h91_5]
      have hv' := hv Q
      rw [show nI 1 = 1 from rfl] at hv'
      simp (disch := first | assumption | omega | (simp (disch := omega) only [zr_n, zr_s]; assumption)) only [x91_7, x91_9, x91_12, x91_13, x91_15, x91_16, ↓reduceIte, zkl_i, zkl_r, zkl_n, zkl_z, zkl_l, Option.toList_some, Option.toList_none, List.cons_append, List.nil_append, zcs_0, zcs_i, zcs_l, zcs_r, zle8, true_and, and_true, true_or, or_true, ngt_9, e9, if_false]
      rw [hv']
      simp (disch := first | assumption | omega | (simp (disch := omega) only [zr_n, zr_s]; assumption)) only [x91_88, x91_89, x91_91, x91_94, x91_95, x91_98, ↓reduceIte, zkl_i, zkl_r, zkl_n, zkl_z, zkl_l, Option.toList_some, Option.toList_none, List.cons_append, List.nil_append, zcs_0, zcs_i, zcs_l, zcs_r, zle8, true_and, and_true, true_or, or_true, na_1]
      rfl
  rw [gaF, ← outer 9 1 0 .null .null .null rfl]
  simp (disch := first | assumption | omega | (simp (disch := omega) only [zr_n, zr_s]; assumption)) only [x91_0, x91_1, x91_2, x91_3, ↓reduceIte, zkl_i, zkl_r, zkl_n, zkl_z, zkl_l, Option.toList_some, Option.toList_none, List.cons_append, List.nil_append, zcs_0, zcs_i, zcs_l, zcs_r, zle8, true_and, and_true, true_or, or_true]
  rfl
theorem c_ask {q : Nat} (h : CD 8 I D) (hS : SG I) (hq : q < tn (D 28 3)) : ∃ X : zI, (∀ Q : zQ, Rn (zG xl) 64 0 [.ref 0, .int (nI q), .null, .null, .null, .null, .null] [] I J Q = Q (some (.int (asF (fun m => gaF (kpF I D q) (fun a => mkD (dk D q (nI a)) (nI m)))))) X J) ∧ Tr I X := by
  obtain ⟨b0, -, b3, -, b6, -, b9, -⟩ := Pk_l h.2.1
  obtain ⟨X, g1, g2, g3⟩ := c_tryKeens (xl := xl) (J := J) h hS hq
  refine ⟨X, fun Q => ?_, g3⟩
  have hG : ∀ m, m < 24 → gaF (kpF I D q) (fun a => X 63 (a * 24 + m)) = gaF (kpF I D q) (fun a => mkD (dk D q (nI a)) (nI m)) := by
    intro m hm
    exact gaF_c (fun a a1 a2 => g2 a m a1 a2 hm)
  have key : ∀ (d m : Nat) (x : Int32 × Int32) (v6 : Value), m + d = 24 → Rn (zG xl) 64 32 [.ref 0, .int (nI q), .int (kpF I D q), .int x.1, .int x.2, .int (nI m), v6] [] X J Q = Q (some (.int (fo (fun m (x : Int32 × Int32) => if gaF (kpF I D q) (fun a => mkD (dk D q (nI a)) (nI m)) < x.2 then (nI m, gaF (kpF I D q) (fun a => mkD (dk D q (nI a)) (nI m))) else x) d m x).1)) X J := by
    intro d
    induction d with
    | zero =>
      intro m x v6 hm
      have hm : m = 24 := hm
      subst hm
      rw [h64_32]
      simp (disch := first | assumption | omega | (simp (disch := omega) only [zr_n, zr_s]; assumption)) only [x64_34, x64_36, x64_39, x64_40, x64_41, x64_43, x64_46, x64_48, x64_50, x64_52, x64_55, x64_57, x64_59, x64_61, x64_62, x64_65, x64_68, x64_69, ↓reduceIte, zkl_i, zkl_r, zkl_n, zkl_z, zkl_l, Option.toList_some, Option.toList_none, List.cons_append, List.nil_append, zcs_0, zcs_i, zcs_l, zcs_r, zle8, true_and, and_true, true_or, or_true, nlt_24, Nat.lt_irrefl, if_false, fo]
    | succ d ih =>
      intro m x v6 hm
      have hm2 : m < 24 := by omega
      have hc := fun Q => c_alike (xl := xl) (J := J) (X := X) (Q := Q) (p := kpF I D q) hm2
      rw [fo, h64_32]
      simp (disch := first | assumption | omega | (simp (disch := omega) only [zr_n, zr_s]; assumption)) only [x64_34, x64_36, x64_39, x64_40, x64_41, x64_43, x64_46, x64_48, x64_50, x64_52, x64_55, x64_57, x64_59, x64_61, x64_62, x64_65, gc_0, ↓reduceIte, zkl_i, zkl_r, zkl_n, zkl_z, zkl_l, Option.toList_some, Option.toList_none, List.cons_append, List.nil_append, zcs_0, zcs_i, zcs_l, zcs_r, zle8, true_and, and_true, true_or, or_true, nlt_24, hm2, if_true, hc, hG m hm2, na_1]
      by_cases hl : gaF (kpF I D q) (fun a => mkD (dk D q (nI a)) (nI m)) < x.2
      · rw [if_pos hl, if_pos hl]
        exact ih (m + 1) (_, _) _ (by omega)
      · rw [if_neg hl, if_neg hl]
        exact ih (m + 1) x _ (by omega)
  obtain ⟨e0, e3, e6, e9⟩ := CD_8 h (Tr_refl I)
  have n0 : ¬ nI q < 0 := nI_pos (by omega)
  rw [asF, ← key 24 0 (0, 10) .null rfl]
  simp (disch := first | assumption | omega | (simp (disch := omega) only [zr_n, zr_s]; assumption)) only [x64_0, x64_1, x64_2_0, x64_5_8, x64_5_28, x64_8, x64_11, x64_14, x64_16, x64_17, x64_18, x64_19, x64_22, x64_23, x64_24, x64_25, x64_27, x64_29, x64_30, gc_0, ↓reduceIte, zkl_i, zkl_r, zkl_n, zkl_z, zkl_l, Option.toList_some, Option.toList_none, List.cons_append, List.nil_append, zcs_0, zcs_i, zcs_l, zcs_r, zle8, true_and, and_true, true_or, or_true, c_below, e3, n0, nI_ltI, hq, if_true, if_false, i1_0, g1]
  rfl
theorem c_ask_bad {Q : zQ} {a : Int32} (ha : a < 0 ∨ ¬ a < I 8 3) : Rn (zG xl) 64 0 [.ref 0, .int a, .null, .null, .null, .null, .null] [] I J Q = Q (some (.int (-2))) I J := by
  have e : (if a < 0 then (0 : Int32) else if a < I 8 3 then 1 else 0) = 0 := by
    by_cases h1 : a < 0
    · rw [if_pos h1]
    · rw [if_neg h1]
      rcases ha with h2 | h2
      · exact absurd h2 h1
      · rw [if_neg h2]
  simp (disch := first | assumption | omega | (simp (disch := omega) only [zr_n, zr_s]; assumption)) only [x64_0, x64_1, x64_2_0, x64_5_8, x64_5_28, x64_8, x64_11, x64_14, x64_16, x64_17, x64_18, x64_19, x64_22, x64_23, x64_24, x64_25, x64_27, x64_29, x64_30, ↓reduceIte, zkl_i, zkl_r, zkl_n, zkl_z, zkl_l, Option.toList_some, Option.toList_none, List.cons_append, List.nil_append, zcs_0, zcs_i, zcs_l, zcs_r, zle8, true_and, and_true, true_or, or_true, c_below, e, if_true]
end

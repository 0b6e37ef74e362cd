/-! ===== the class: one shift more, two shifts changed, events hushed ===== -/
theorem dp_f {n : Nat} {X X' : zI} {r l r' l' : Int32} (h : ∀ c, 28 ≤ c → c ≤ 37 → X' c = dp n X r l c) : ∀ c, 28 ≤ c → c ≤ 37 → dp n X' r' l' c = dp n X r' l' c := by
  intro c c1 c2
  rw [← dp_dp n X r l r' l']
  unfold dp at h ⊢
  by_cases c3 : c = 34
  · subst c3
    rw [zr_s, zr_s, h 34 (by omega) (by omega)]
  · rw [zr_n c3, zr_n c3]
    by_cases c4 : c = 33
    · subst c4
      rw [zr_s, zr_s, h 33 (by omega) (by omega)]
    · rw [zr_n c4, zr_n c4, h c c1 c2]
def moF (D : zI) (f : Nat → Int32) : Nat → Int32 := fo (fun r s => fo (fun l s => kb (nI r) (nI l) (hD (dm D (nI r) (nI l))) s) (tn (D 28 0)) 0 s) (tn (D 28 3)) 0 f
def tuF (D : zI) (f : Nat → Int32) : Nat → Int32 := fo (fun i s => fo (fun j s => kb (nI i) (nI j) (hD (zxc i j D)) s) (tn (D 28 6) - (i + 1)) (i + 1) s) (tn (D 28 6)) 0 f
def hsH (D : zI) (b : Int32) : Int32 := if pdD (da D b) = 0 then 1 else 0
def hs1 (H : Int32 → Int32) : Nat → Nat → Option Nat
  | 0, _ => none
  | d + 1, k => if H (1 <<< (nI k &&& 31)) = 0 then hs1 H d (k + 1) else some k
def hs2i (H : Int32 → Int32) (a : Nat) : Nat → Nat → Option Nat
  | 0, _ => none
  | d + 1, b => if H (1 <<< (nI a &&& 31) ||| 1 <<< (nI b &&& 31)) = 0 then hs2i H a d (b + 1) else some b
def hs2 (H : Int32 → Int32) (e : Nat) : Nat → Nat → Option (Nat × Nat)
  | 0, _ => none
  | d + 1, a => match hs2i H a (e - (a + 1)) (a + 1) with
    | some b => some (a, b)
    | none => hs2 H e d (a + 1)
def hsE (e : Nat) (H : Int32 → Int32) (f : Nat → Int32) : Nat → Int32 := match hs2 H e e 0 with
  | some (a, b) => upd (upd (upd f 0 2) 1 (nI a)) 2 (nI b)
  | none => f
def hsD (e : Nat) (H : Int32 → Int32) (f : Nat → Int32) : Nat → Int32 := match hs1 H e 0 with
  | some a => upd (upd f 0 1) 1 (nI a)
  | none => hsE e H f
def hsR (e : Nat) (H : Int32 → Int32) (f : Nat → Int32) : Nat → Int32 := if H 0 = 0 then hsD e H f else upd f 0 0
section
variable {xl : Nat} {J : zJ} {I X D : zI}
theorem c_fill_61 {Q : zQ} {v : Int32} : Rn (zG xl) 198 0 [.ref 61, .int v, .null, .null] [] I J Q = Q none (zr I 61 (zfil 3 v (I 61))) J := c_fill (by rw [ak_61]; decide) al_61 (fun _ => bs_61) (by decide)
theorem c_fill_62 {Q : zQ} {v : Int32} : Rn (zG xl) 198 0 [.ref 62, .int v, .null, .null] [] I J Q = Q none (zr I 62 (zfil 3 v (I 62))) J := c_fill (by rw [ak_62]; decide) al_62 (fun _ => bs_62) (by decide)
theorem CD_8 (h : CD 8 I D) (hT : Tr I X) : X 8 0 = nI (tn (D 28 0)) ∧ X 8 3 = nI (tn (D 28 3)) ∧ X 8 6 = nI (tn (D 28 6)) ∧ X 8 9 = nI (tn (D 28 9)) := by
  obtain ⟨-, l0, -, l3, -, l6, -, l9⟩ := Pk_l h.2.1
  rw [hT 8 (by omega), h.1.1.1, h.1.1.2.1, h.1.1.2.2.1, h.1.1.2.2.2.1]
  exact ⟨l0, l3, l6, l9⟩
theorem c_findMore (h : CD 8 I D) (h16 : tn (D 28 6) ≤ 16) : ∃ X : zI, (∀ Q : zQ, Rn (zG xl) 85 0 [.ref 0, .null, .null, .null] [] I J Q = Q none X J) ∧ X 61 = moF D (zfil 3 (-1) (I 61)) ∧ Tr I X := by
  obtain ⟨b0, -, b3, -, b6, -, b9, -⟩ := Pk_l h.2.1
  have inner : ∀ r, r < tn (D 28 3) → ∀ (d k : Nat) (s : Nat → Int32) (v : Unit) (X : zI), k + d = tn (D 28 0) → (X 61 = s ∧ (∀ r l, ixN r 6 → ixN l 10 → CD 28 (dp (tn (D 28 6)) X r l) (dm D r l)) ∧ Tr I X) → ∃ X', (∀ Q, Rn (zG xl) 85 52 [.ref 0, .int (nI (tn (D 28 6))), .int (nI r), .int (nI k)] [] X J Q = Rn (zG xl) 85 39 [.ref 0, .int (nI (tn (D 28 6))), .int (nI (r + 1)), .int (nI (tn (D 28 0)))] [] X' J Q) ∧ X' 61 = fo (fun l s => kb (nI r) (nI l) (hD (dm D (nI r) (nI l))) s) d k s ∧ (∀ r l, ixN r 6 → ixN l 10 → CD 28 (dp (tn (D 28 6)) X' r l) (dm D r l)) ∧ Tr I X' := by
    intro r hr
    refine lpE (R := fun k s v X Q => Rn (zG xl) 85 52 [.ref 0, .int (nI (tn (D 28 6))), .int (nI r), .int (nI k)] [] X J Q) (E := fun s X' Q => Rn (zG xl) 85 39 [.ref 0, .int (nI (tn (D 28 6))), .int (nI (r + 1)), .int (nI (tn (D 28 0)))] [] X' J Q) (P := fun k s X => X 61 = s ∧ (∀ r l, ixN r 6 → ixN l 10 → CD 28 (dp (tn (D 28 6)) X r l) (dm D r l)) ∧ Tr I X) (P' := fun s X' => X' 61 = s ∧ (∀ r l, ixN r 6 → ixN l 10 → CD 28 (dp (tn (D 28 6)) X' r l) (dm D r l)) ∧ Tr I X') (fun k s v X hk hP => ?_) (fun s v X hP => ?_)
    · obtain ⟨p1, p2, p3⟩ := hP
      have hC := p2 (nI r) (nI k) (by rw [ixN_nI (by omega) (by decide)]; trivial) (by rw [ixN_nI (by omega) (by decide)]; trivial)
      have hK := fun Q => c_keep (xl := xl) (J := J) (Q := Q) (a := nI r) (b := nI k) hC
      unfold dp at hK
      obtain ⟨e0, e3, e6, e9⟩ := CD_8 h p3
      refine ⟨(), zr (zps 38 28 (dp (tn (D 28 6)) X (nI r) (nI k))) 61 (kb (nI r) (nI k) (hD (dm D (nI r) (nI k))) s), fun Q => ?_, ?_, ?_, ?_⟩
      · rw [h85_52]
        have e61 : zr (zr X 33 (upd (X 33) (tn (D 28 6)) (nI r))) 34 (upd (X 34) (tn (D 28 6)) (nI k)) 61 = s := by
          rw [zr_n (by decide), zr_n (by decide)]; exact p1
        simp (disch := first | assumption | omega | (simp (disch := omega) only [zr_n, zr_s]; assumption)) only [x85_53, x85_54_0, x85_57_8, x85_57_28, x85_60, x85_63, x85_64_0, x85_67_8, x85_67_28, x85_70, x85_71, x85_72, x85_73, x85_74_0, x85_77_8, x85_77_28, x85_80, x85_81, x85_82, x85_83, x85_84, x85_85, x85_86, x85_89, x85_92, gc_0, bi_33, bs_33, bi_34, bs_34, ↓reduceIte, zkl_i, zkl_r, zkl_n, zkl_z, zkl_l, Option.toList_some, Option.toList_none, List.cons_append, List.nil_append, zcs_0, zcs_i, zcs_l, zcs_r, zle8, true_and, and_true, true_or, or_true, e0, nI_ltI, hk, if_true, ixN_nI, nI_clamp, na_1, zr_n, hK]
        rw [p1]
        rfl
      · rw [zr_s]
      · intro r' l' hr' hl'
        refine CD_f (dp_f (X := X) (r := nI r) (l := nI k) (fun c c1 c2 => ?_)) ?_ (p2 r' l' hr' hl')
        · rw [zr_n (by omega), zps_f (by omega)]
        · unfold dp
          simp (disch := omega) only [zr_n]
          rw [zps_f (by omega)]
          simp (disch := omega) only [zr_n]
      · exact Tr_zr (by omega) (Tr_zps (Tr_zr (by omega) (Tr_zr (by omega) p3)))
    · obtain ⟨p1, p2, p3⟩ := hP
      obtain ⟨e0, e3, e6, e9⟩ := CD_8 h p3
      refine ⟨X, fun Q => ?_, p1, p2, p3⟩
      rw [h85_52]
      simp (disch := first | assumption | omega | (simp (disch := omega) only [zr_n, zr_s]; assumption)) only [x85_53, x85_54_0, x85_57_8, x85_57_28, x85_60, x85_63, x85_64_0, x85_67_8, x85_67_28, x85_70, x85_71, x85_72, x85_73, x85_74_0, x85_77_8, x85_77_28, x85_80, x85_81, x85_82, x85_83, x85_84, x85_85, x85_86, x85_89, x85_92, x85_95, x85_98, ↓reduceIte, zkl_i, zkl_r, zkl_n, zkl_z, zkl_l, Option.toList_some, Option.toList_none, List.cons_append, List.nil_append, zcs_0, zcs_i, zcs_l, zcs_r, zle8, true_and, and_true, true_or, or_true, e0, nI_ltI, Nat.lt_irrefl, if_false, na_1]
  have outer := lpE (R := fun k s (v : Value) X Q => Rn (zG xl) 85 39 [.ref 0, .int (nI (tn (D 28 6))), .int (nI k), v] [] X J Q) (E := fun (s : Nat → Int32) X' Q => Q none X' J) (f := fun r s => fo (fun l s => kb (nI r) (nI l) (hD (dm D (nI r) (nI l))) s) (tn (D 28 0)) 0 s) (n := tn (D 28 3)) (P := fun k s X => X 61 = s ∧ (∀ r l, ixN r 6 → ixN l 10 → CD 28 (dp (tn (D 28 6)) X r l) (dm D r l)) ∧ Tr I X) (P' := fun s X' => X' 61 = s ∧ Tr I X') (fun k s v X hk hP => ?_) (fun s v X hP => ?_) (tn (D 28 3)) 0 (zfil 3 (-1) (I 61)) .null (zr (ztf (zr I 61 (zfil 3 (-1) (I 61)))) 28 (upd (ztf (zr I 61 (zfil 3 (-1) (I 61))) 28) 6 (nI (tn (D 28 6) + 1)))) (Nat.zero_add _) ⟨?_, ?_, ?_⟩
  · obtain ⟨X, g1, g2, g3⟩ := outer
    refine ⟨X, fun Q => ?_, g2, g3⟩
    rw [← g1 Q]
    obtain ⟨e0, e3, e6, e9⟩ := CD_8 h (Tr_trans (Tr_zr (c := 61) (f := zfil 3 (-1) (I 61)) (by omega) (Tr_refl I)) Tr_ztf)
    simp (disch := first | assumption | omega | (simp (disch := omega) only [zr_n, zr_s]; assumption)) only [x85_0, x85_1_0, x85_4, x85_5, x85_8, x85_9_0, x85_12, x85_13_0, x85_16, x85_19, x85_20_0, x85_23_8, x85_23_28, x85_26, x85_27, x85_28_0, x85_31, x85_32, x85_33, x85_34_8, x85_34_28, x85_37, x85_38, gc_8, gc_28, ↓reduceIte, zkl_i, zkl_r, zkl_n, zkl_z, zkl_l, Option.toList_some, Option.toList_none, List.cons_append, List.nil_append, zcs_0, zcs_i, zcs_l, zcs_r, zle8, true_and, and_true, true_or, or_true, c_fill_61, c_takeFrom, e6, na_1, zr_n]
    rfl
  · obtain ⟨p1, p2, p3⟩ := hP
    obtain ⟨e0, e3, e6, e9⟩ := CD_8 h p3
    obtain ⟨X', g1, g2⟩ := inner k hk (tn (D 28 0)) 0 s () X (Nat.zero_add _) ⟨p1, p2, p3⟩
    refine ⟨.int (nI (tn (D 28 0))), X', fun Q => ?_, g2⟩
    show Rn _ _ _ _ _ _ _ _ = Rn _ _ _ _ _ _ _ _
    rw [← g1 Q, h85_39]
    simp (disch := first | assumption | omega | (simp (disch := omega) only [zr_n, zr_s]; assumption)) only [x85_40, x85_41_0, x85_44_8, x85_44_28, x85_47, x85_50, x85_51, ↓reduceIte, zkl_i, zkl_r, zkl_n, zkl_z, zkl_l, Option.toList_some, Option.toList_none, List.cons_append, List.nil_append, zcs_0, zcs_i, zcs_l, zcs_r, zle8, true_and, and_true, true_or, or_true, e3, nI_ltI, hk, if_true]
    rfl
  · obtain ⟨p1, p2, p3⟩ := hP
    obtain ⟨e0, e3, e6, e9⟩ := CD_8 h p3
    refine ⟨X, fun Q => ?_, p1, p3⟩
    show Rn _ _ _ _ _ _ _ _ = _
    rw [h85_39]
    simp (disch := first | assumption | omega | (simp (disch := omega) only [zr_n, zr_s]; assumption)) only [x85_40, x85_41_0, x85_44_8, x85_44_28, x85_47, x85_50, x85_51, x85_53, x85_54_0, x85_57_8, x85_57_28, x85_60, x85_63, x85_64_0, x85_67_8, x85_67_28, x85_70, x85_71, x85_72, x85_73, x85_74_0, x85_77_8, x85_77_28, x85_80, x85_81, x85_82, x85_83, x85_84, x85_85, x85_86, x85_89, x85_92, x85_95, x85_98, x85_101, ↓reduceIte, zkl_i, zkl_r, zkl_n, zkl_z, zkl_l, Option.toList_some, Option.toList_none, List.cons_append, List.nil_append, zcs_0, zcs_i, zcs_l, zcs_r, zle8, true_and, and_true, true_or, or_true, e3, nI_ltI, Nat.lt_irrefl, if_false]
  · rw [zr_n (by decide), Tr_ztf_61, zr_s]
  · intro r l hr hl
    exact CD_dm hr hl h16 (CD_ztf (Tr_CD (Tr_zr (by omega) (Tr_refl I)) h))
  · exact Tr_zr (by omega) (Tr_trans (Tr_zr (by omega) (Tr_refl I)) Tr_ztf)
theorem c_findTurn (h : CD 8 I D) : ∃ X : zI, (∀ Q : zQ, Rn (zG xl) 86 0 [.ref 0, .null, .null] [] I J Q = Q none X J) ∧ X 61 = tuF D (zfil 3 (-1) (I 61)) ∧ Tr I X := by
  obtain ⟨b0, -, b3, -, b6, -, b9, -⟩ := Pk_l h.2.1
  have inner : ∀ i, i < tn (D 28 6) → ∀ (d k : Nat) (s : Nat → Int32) (v : Unit) (X : zI), k + d = tn (D 28 6) → (X 61 = s ∧ CD 28 X D ∧ Tr I X) → ∃ X', (∀ Q, Rn (zG xl) 86 36 [.ref 0, .int (nI i), .int (nI k)] [] X J Q = Rn (zG xl) 86 21 [.ref 0, .int (nI (i + 1)), .int (nI (tn (D 28 6)))] [] X' J Q) ∧ X' 61 = fo (fun j s => kb (nI i) (nI j) (hD (zxc i j D)) s) d k s ∧ CD 28 X' D ∧ Tr I X' := by
    intro i hi
    refine lpE (R := fun k s v X Q => Rn (zG xl) 86 36 [.ref 0, .int (nI i), .int (nI k)] [] X J Q) (E := fun s X' Q => Rn (zG xl) 86 21 [.ref 0, .int (nI (i + 1)), .int (nI (tn (D 28 6)))] [] X' J Q) (P := fun k s X => X 61 = s ∧ CD 28 X D ∧ Tr I X) (P' := fun s X' => X' 61 = s ∧ CD 28 X' D ∧ Tr I X') (fun k s v X hk hP => ?_) (fun s v X hP => ?_)
    · obtain ⟨p1, p2, p3⟩ := hP
      have hC := CD_zxc hi hk p2
      have hK := fun Q => c_keep (xl := xl) (J := J) (Q := Q) (a := nI i) (b := nI k) hC
      obtain ⟨e0, e3, e6, e9⟩ := CD_8 h p3
      have e61 : zxc i k X 61 = s := by
        unfold zxc
        rw [zr_n (by decide), zr_n (by decide)]; exact p1
      have hR : ∀ c, 28 ≤ c → c ≤ 37 → zr (zps 38 28 (zxc i k X)) 61 (kb (nI i) (nI k) (hD (zxc i k D)) s) c = zxc i k X c := by
        intro c c1 c2
        rw [zr_n (by omega), zps_f (by omega)]
      refine ⟨(), zxc i k (zr (zps 38 28 (zxc i k X)) 61 (kb (nI i) (nI k) (hD (zxc i k D)) s)), fun Q => ?_, ?_, ?_, ?_⟩
      · rw [h86_36]
        simp (disch := first | assumption | omega | (simp (disch := omega) only [zr_n, zr_s]; assumption)) only [x86_37, x86_38_0, x86_41_8, x86_41_28, x86_44, x86_47, x86_48_0, x86_51, x86_52, x86_53, x86_56, x86_57, x86_58, x86_59, x86_62, x86_63_0, x86_66, x86_67, x86_68, x86_71, x86_74, gc_0, gc_28, ↓reduceIte, zkl_i, zkl_r, zkl_n, zkl_z, zkl_l, Option.toList_some, Option.toList_none, List.cons_append, List.nil_append, zcs_0, zcs_i, zcs_l, zcs_r, zle8, true_and, and_true, true_or, or_true, e6, nI_ltI, hk, if_true, na_1, c_exchange, hK, e61]
      · unfold zxc
        rw [zr_n (by decide), zr_n (by decide), zr_s]
      · refine CD_f (zxc_f hR) ?_ p2
        unfold zxc
        simp (disch := omega) only [zr_n]
        rw [zps_f (by omega)]
        simp (disch := omega) only [zr_n]
      · exact Tr_zr (by omega) (Tr_zr (by omega) (Tr_zr (by omega) (Tr_zps (Tr_zr (by omega) (Tr_zr (by omega) p3)))))
    · obtain ⟨p1, p2, p3⟩ := hP
      obtain ⟨e0, e3, e6, e9⟩ := CD_8 h p3
      refine ⟨X, fun Q => ?_, p1, p2, p3⟩
      rw [h86_36]
      simp (disch := first | assumption | omega | (simp (disch := omega) only [zr_n, zr_s]; assumption)) only [x86_37, x86_38_0, x86_41_8, x86_41_28, x86_44, x86_47, x86_48_0, x86_51, x86_52, x86_53, x86_56, x86_57, x86_58, x86_59, x86_62, x86_63_0, x86_66, x86_67, x86_68, x86_71, x86_74, x86_77, x86_80, ↓reduceIte, zkl_i, zkl_r, zkl_n, zkl_z, zkl_l, Option.toList_some, Option.toList_none, List.cons_append, List.nil_append, zcs_0, zcs_i, zcs_l, zcs_r, zle8, true_and, and_true, true_or, or_true, e6, nI_ltI, Nat.lt_irrefl, if_false, na_1]
  have outer := lpE (R := fun k s (v : Value) X Q => Rn (zG xl) 86 21 [.ref 0, .int (nI k), v] [] X J Q) (E := fun (s : Nat → Int32) X' Q => Q none X' J) (f := fun i s => fo (fun j s => kb (nI i) (nI j) (hD (zxc i j D)) s) (tn (D 28 6) - (i + 1)) (i + 1) s) (n := tn (D 28 6)) (P := fun k s X => X 61 = s ∧ CD 28 X D ∧ Tr I X) (P' := fun s X' => X' 61 = s ∧ Tr I X') (fun k s v X hk hP => ?_) (fun s v X hP => ?_) (tn (D 28 6)) 0 (zfil 3 (-1) (I 61)) .null (ztf (zr I 61 (zfil 3 (-1) (I 61)))) (Nat.zero_add _) ⟨?_, ?_, ?_⟩
  · obtain ⟨X, g1, g2, g3⟩ := outer
    refine ⟨X, fun Q => ?_, g2, g3⟩
    rw [← g1 Q]
    simp (disch := first | assumption | omega | (simp (disch := omega) only [zr_n, zr_s]; assumption)) only [x86_0, x86_1_0, x86_4, x86_5, x86_8, x86_9_0, x86_12, x86_13_0, x86_16, x86_19, x86_20, gc_8, gc_28, ↓reduceIte, zkl_i, zkl_r, zkl_n, zkl_z, zkl_l, Option.toList_some, Option.toList_none, List.cons_append, List.nil_append, zcs_0, zcs_i, zcs_l, zcs_r, zle8, true_and, and_true, true_or, or_true, c_fill_61, c_takeFrom]
    rfl
  · obtain ⟨p1, p2, p3⟩ := hP
    obtain ⟨e0, e3, e6, e9⟩ := CD_8 h p3
    obtain ⟨X', g1, g2⟩ := inner k hk (tn (D 28 6) - (k + 1)) (k + 1) s () X (by omega) ⟨p1, p2, p3⟩
    refine ⟨.int (nI (tn (D 28 6))), X', fun Q => ?_, g2⟩
    show Rn _ _ _ _ _ _ _ _ = Rn _ _ _ _ _ _ _ _
    rw [← g1 Q, h86_21]
    simp (disch := first | assumption | omega | (simp (disch := omega) only [zr_n, zr_s]; assumption)) only [x86_22, x86_23_0, x86_26_8, x86_26_28, x86_29, x86_32, x86_33, x86_34, x86_35, ↓reduceIte, zkl_i, zkl_r, zkl_n, zkl_z, zkl_l, Option.toList_some, Option.toList_none, List.cons_append, List.nil_append, zcs_0, zcs_i, zcs_l, zcs_r, zle8, true_and, and_true, true_or, or_true, e6, nI_ltI, hk, if_true, na_1]
  · obtain ⟨p1, p2, p3⟩ := hP
    obtain ⟨e0, e3, e6, e9⟩ := CD_8 h p3
    refine ⟨X, fun Q => ?_, p1, p3⟩
    show Rn _ _ _ _ _ _ _ _ = _
    rw [h86_21]
    simp (disch := first | assumption | omega | (simp (disch := omega) only [zr_n, zr_s]; assumption)) only [x86_22, x86_23_0, x86_26_8, x86_26_28, x86_29, x86_32, x86_33, x86_34, x86_35, x86_37, x86_38_0, x86_41_8, x86_41_28, x86_44, x86_47, x86_48_0, x86_51, x86_52, x86_53, x86_56, x86_57, x86_58, x86_59, x86_62, x86_63_0, x86_66, x86_67, x86_68, x86_71, x86_74, x86_77, x86_80, x86_83, ↓reduceIte, zkl_i, zkl_r, zkl_n, zkl_z, zkl_l, Option.toList_some, Option.toList_none, List.cons_append, List.nil_append, zcs_0, zcs_i, zcs_l, zcs_r, zle8, true_and, and_true, true_or, or_true, e6, nI_ltI, Nat.lt_irrefl, if_false]
  · rw [Tr_ztf_61, zr_s]
  · exact CD_ztf (Tr_CD (Tr_zr (by omega) (Tr_refl I)) h)
  · exact Tr_trans (Tr_zr (by omega) (Tr_refl I)) Tr_ztf
/-! hush -/
theorem c_hushHelps {Q : zQ} {b v : Int32} (h : CD 28 X (da D v)) : Rn (zG xl) 89 0 [.ref 0, .int b] [] X J Q = Q (some (.int (hsH D b))) (zps 38 28 (da X b)) J := by
  have h1 : CD 28 (da X b) (da D b) := by
    have := CD_da (v := b) h
    rw [da_da] at this
    exact this
  have hN : CN 38 28 (zps 38 28 (da X b)) (da D b) := CN_pass (by decide) (by decide) h1
  have hd1 := fun Q => d_pass_38 (xl := xl) (J := J) (Q := Q) h1
  have hd2 := fun Q => d_passed_38 (xl := xl) (J := J) (Q := Q) hN
  rw [show da X b = zr X 28 (upd (X 28) 13 b) from rfl] at hd1 hd2
  simp (disch := first | assumption | omega | (simp (disch := omega) only [zr_n, zr_s]; assumption)) only [x89_0, x89_1_0, x89_4, x89_5_8, x89_5_28, x89_8, x89_9_0, x89_12, x89_13_0, x89_16, x89_19, x89_20_0, x89_23, x89_26, x89_29, x89_30, x89_33, x89_34, gc_38, gc_28, ↓reduceIte, zkl_i, zkl_r, zkl_n, zkl_z, zkl_l, Option.toList_some, Option.toList_none, List.cons_append, List.nil_append, zcs_0, zcs_i, zcs_l, zcs_r, zle8, true_and, and_true, true_or, or_true, hd1, hd2, b1_0, b1_1]
  rw [hsH]
  by_cases hz : pdD (da D b) = 0
  · simp only [hz, if_true]
    rfl
  · simp only [hz, if_false]
    rfl
theorem da_zps {v b : Int32} (h : CD 28 X (da D v)) : CD 28 (zps 38 28 (da X b)) (da D b) := by
  have := CD_da (v := b) h
  rw [da_da] at this
  exact CD_zps this
theorem c_findHush (h : CD 8 I D) : ∃ X : zI, (∀ Q : zQ, Rn (zG xl) 88 0 [.ref 0, .null, .null] [] I J Q = Q none X J) ∧ X 62 = hsR (tn (D 28 9)) (hsH D) (zfil 3 (-1) (I 62)) ∧ Tr I X := by
  obtain ⟨b0, -, b3, -, b6, -, b9, -⟩ := Pk_l h.2.1
  generalize hf0 : zfil 3 (-1) (I 62) = f0
  have P1 : ∀ {X : zI} {v b : Int32}, CD 28 X (da D v) ∧ X 62 = f0 ∧ Tr I X → CD 28 (zps 38 28 (da X b)) (da D b) ∧ zps 38 28 (da X b) 62 = f0 ∧ Tr I (zps 38 28 (da X b)) := by
    intro X v b hX
    refine ⟨da_zps hX.1, ?_, Tr_zps (Tr_zr (by omega) hX.2.2)⟩
    rw [zps_f (by omega)]
    unfold da
    rw [zr_n (by decide)]
    exact hX.2.1
  have L3 : ∀ a, a < tn (D 28 9) → ∀ (d k : Nat) (X : zI) (v : Int32), k + d = tn (D 28 9) → (CD 28 X (da D v) ∧ X 62 = f0 ∧ Tr I X) → ∃ X', (match hs2i (hsH D) a d k with
      | some b => (∀ Q, Rn (zG xl) 88 96 [.ref 0, .int (nI a), .int (nI k)] [] X J Q = Q none X' J) ∧ X' 62 = upd (upd (upd f0 0 2) 1 (nI a)) 2 (nI b) ∧ Tr I X'
      | none => (∀ Q, Rn (zG xl) 88 96 [.ref 0, .int (nI a), .int (nI k)] [] X J Q = Rn (zG xl) 88 81 [.ref 0, .int (nI (a + 1)), .int (nI (tn (D 28 9)))] [] X' J Q) ∧ (∃ v, CD 28 X' (da D v)) ∧ X' 62 = f0 ∧ Tr I X') := by
    intro a ha d
    induction d with
    | zero =>
      intro k X v hk hX
      have hk : k = tn (D 28 9) := hk
      obtain ⟨e0, e3, e6, e9⟩ := CD_8 h hX.2.2
      subst hk
      refine ⟨X, fun Q => ?_, ⟨v, hX.1⟩, hX.2⟩
      rw [h88_96]
      simp (disch := first | assumption | omega | (simp (disch := omega) only [zr_n, zr_s]; assumption)) only [x88_97, x88_98_0, x88_101_8, x88_101_28, x88_104, x88_107, x88_108, x88_109, x88_110, x88_111, x88_112, x88_113, x88_114, x88_115, x88_118, x88_121, x88_122_0, x88_125, x88_126, x88_127, x88_128, x88_129_0, x88_132, x88_133, x88_134, x88_135, x88_136_0, x88_139, x88_140, x88_141, x88_142, x88_143, x88_146, x88_149, x88_152, ↓reduceIte, zkl_i, zkl_r, zkl_n, zkl_z, zkl_l, Option.toList_some, Option.toList_none, List.cons_append, List.nil_append, zcs_0, zcs_i, zcs_l, zcs_r, zle8, true_and, and_true, true_or, or_true, e9, nI_ltI, Nat.lt_irrefl, if_false, na_1]
    | succ d ih =>
      intro k X v hk hX
      have hk2 : k < tn (D 28 9) := by omega
      obtain ⟨e0, e3, e6, e9⟩ := CD_8 h hX.2.2
      have hh := fun Q => c_hushHelps (xl := xl) (J := J) (Q := Q) (b := 1 <<< (nI a &&& 31) ||| 1 <<< (nI k &&& 31)) hX.1
      have hP := P1 (b := 1 <<< (nI a &&& 31) ||| 1 <<< (nI k &&& 31)) hX
      rw [hs2i]
      by_cases hz : hsH D (1 <<< (nI a &&& 31) ||| 1 <<< (nI k &&& 31)) = 0
      · rw [if_pos hz]
        obtain ⟨X', g⟩ := ih (k + 1) _ _ (by omega) hP
        refine ⟨X', ?_⟩
        have st : ∀ Q, Rn (zG xl) 88 96 [.ref 0, .int (nI a), .int (nI k)] [] X J Q = Rn (zG xl) 88 96 [.ref 0, .int (nI a), .int (nI (k + 1))] [] (zps 38 28 (da X (1 <<< (nI a &&& 31) ||| 1 <<< (nI k &&& 31)))) J Q := by
          intro Q
          rw [h88_96]
          simp (disch := first | assumption | omega | (simp (disch := omega) only [zr_n, zr_s]; assumption)) only [x88_97, x88_98_0, x88_101_8, x88_101_28, x88_104, x88_107, x88_108, x88_109, x88_110, x88_111, x88_112, x88_113, x88_114, x88_115, x88_118, x88_121, x88_122_0, x88_125, x88_126, x88_127, x88_128, x88_129_0, x88_132, x88_133, x88_134, x88_135, x88_136_0, x88_139, x88_140, x88_141, x88_142, x88_143, x88_146, gc_0, ↓reduceIte, zkl_i, zkl_r, zkl_n, zkl_z, zkl_l, Option.toList_some, Option.toList_none, List.cons_append, List.nil_append, zcs_0, zcs_i, zcs_l, zcs_r, zle8, true_and, and_true, true_or, or_true, e9, nI_ltI, hk2, if_true, hh, hz, na_1]
        cases hm : hs2i (hsH D) a d (k + 1) with
        | none =>
          rw [hm] at g
          exact ⟨fun Q => (st Q).trans (g.1 Q), g.2⟩
        | some b =>
          rw [hm] at g
          exact ⟨fun Q => (st Q).trans (g.1 Q), g.2⟩
      · rw [if_neg hz]
        refine ⟨zr (zps 38 28 (da X (1 <<< (nI a &&& 31) ||| 1 <<< (nI k &&& 31)))) 62 (upd (upd (upd f0 0 2) 1 (nI a)) 2 (nI k)), fun Q => ?_, by rw [zr_s], Tr_zr (by omega) hP.2.2⟩
        rw [h88_96]
        simp (disch := first | assumption | omega | (simp (disch := omega) only [zr_n, zr_s]; assumption)) only [x88_97, x88_98_0, x88_101_8, x88_101_28, x88_104, x88_107, x88_108, x88_109, x88_110, x88_111, x88_112, x88_113, x88_114, x88_115, x88_118, x88_121, x88_122_0, x88_125, x88_126, x88_127, x88_128, x88_129_0, x88_132, x88_133, x88_134, x88_135, x88_136_0, x88_139, x88_140, x88_141, x88_142, x88_143, x88_146, gc_0, bi_62, bs_62, ↓reduceIte, zkl_i, zkl_r, zkl_n, zkl_z, zkl_l, Option.toList_some, Option.toList_none, List.cons_append, List.nil_append, zcs_0, zcs_i, zcs_l, zcs_r, zle8, true_and, and_true, true_or, or_true, e9, nI_ltI, hk2, if_true, hh, hz, if_false, ix3, t0, t12, zr_s, zr_zr, hP.2.1]
  have L2 : ∀ (d k : Nat) (X : zI) (v : Int32) (v2 : Value), k + d = tn (D 28 9) → (CD 28 X (da D v) ∧ X 62 = f0 ∧ Tr I X) → ∃ X', (∀ Q, Rn (zG xl) 88 81 [.ref 0, .int (nI k), v2] [] X J Q = Q none X' J) ∧ X' 62 = (match hs2 (hsH D) (tn (D 28 9)) d k with
      | some (a, b) => upd (upd (upd f0 0 2) 1 (nI a)) 2 (nI b)
      | none => f0) ∧ Tr I X' := by
    intro d
    induction d with
    | zero =>
      intro k X v v2 hk hX
      have hk : k = tn (D 28 9) := hk
      obtain ⟨e0, e3, e6, e9⟩ := CD_8 h hX.2.2
      subst hk
      refine ⟨X, fun Q => ?_, hX.2.1, hX.2.2⟩
      rw [h88_81]
      simp (disch := first | assumption | omega | (simp (disch := omega) only [zr_n, zr_s]; assumption)) only [x88_82, x88_83_0, x88_86_8, x88_86_28, x88_89, x88_92, x88_93, x88_94, x88_95, x88_97, x88_98_0, x88_101_8, x88_101_28, x88_104, x88_107, x88_108, x88_109, x88_110, x88_111, x88_112, x88_113, x88_114, x88_115, x88_118, x88_121, x88_122_0, x88_125, x88_126, x88_127, x88_128, x88_129_0, x88_132, x88_133, x88_134, x88_135, x88_136_0, x88_139, x88_140, x88_141, x88_142, x88_143, x88_146, x88_149, x88_152, x88_155, ↓reduceIte, zkl_i, zkl_r, zkl_n, zkl_z, zkl_l, Option.toList_some, Option.toList_none, List.cons_append, List.nil_append, zcs_0, zcs_i, zcs_l, zcs_r, zle8, true_and, and_true, true_or, or_true, e9, nI_ltI, Nat.lt_irrefl, if_false]
    | succ d ih =>
      intro k X v v2 hk hX
      have hk2 : k < tn (D 28 9) := by omega
      obtain ⟨e0, e3, e6, e9⟩ := CD_8 h hX.2.2
      obtain ⟨X1, g⟩ := L3 k hk2 (tn (D 28 9) - (k + 1)) (k + 1) X v (by omega) hX
      have st : ∀ Q, Rn (zG xl) 88 81 [.ref 0, .int (nI k), v2] [] X J Q = Rn (zG xl) 88 96 [.ref 0, .int (nI k), .int (nI (k + 1))] [] X J Q := by
        intro Q
        rw [h88_81]
        simp (disch := first | assumption | omega | (simp (disch := omega) only [zr_n, zr_s]; assumption)) only [x88_82, x88_83_0, x88_86_8, x88_86_28, x88_89, x88_92, x88_93, x88_94, x88_95, ↓reduceIte, zkl_i, zkl_r, zkl_n, zkl_z, zkl_l, Option.toList_some, Option.toList_none, List.cons_append, List.nil_append, zcs_0, zcs_i, zcs_l, zcs_r, zle8, true_and, and_true, true_or, or_true, e9, nI_ltI, hk2, if_true, na_1]
      rw [hs2]
      cases hm : hs2i (hsH D) k (tn (D 28 9) - (k + 1)) (k + 1) with
      | some b =>
        rw [hm] at g
        exact ⟨X1, fun Q => (st Q).trans (g.1 Q), g.2⟩
      | none =>
        rw [hm] at g
        obtain ⟨g1, ⟨v', g2⟩, g3⟩ := g
        obtain ⟨X2, f1, f2⟩ := ih (k + 1) X1 v' (.int (nI (tn (D 28 9)))) (by omega) ⟨g2, g3⟩
        exact ⟨X2, fun Q => (st Q).trans ((g1 Q).trans (f1 Q)), f2⟩
  have L1 : ∀ (d k : Nat) (X : zI) (v : Int32), k + d = tn (D 28 9) → (CD 28 X (da D v) ∧ X 62 = f0 ∧ Tr I X) → ∃ X', (∀ Q, Rn (zG xl) 88 37 [.ref 0, .int (nI k), .null] [] X J Q = Q none X' J) ∧ X' 62 = (match hs1 (hsH D) d k with
      | some a => upd (upd f0 0 1) 1 (nI a)
      | none => hsE (tn (D 28 9)) (hsH D) f0) ∧ Tr I X' := by
    intro d
    induction d with
    | zero =>
      intro k X v hk hX
      have hk : k = tn (D 28 9) := hk
      obtain ⟨e0, e3, e6, e9⟩ := CD_8 h hX.2.2
      subst hk
      obtain ⟨X', g1, g2, g3⟩ := L2 (tn (D 28 9)) 0 X v .null (Nat.zero_add _) hX
      refine ⟨X', fun Q => ?_, g2, g3⟩
      rw [← g1 Q, h88_37]
      simp (disch := first | assumption | omega | (simp (disch := omega) only [zr_n, zr_s]; assumption)) only [x88_38, x88_39_0, x88_42_8, x88_42_28, x88_45, x88_48, x88_49, x88_50, x88_51, x88_52, x88_55, x88_58, x88_59_0, x88_62, x88_63, x88_64, x88_65, x88_66_0, x88_69, x88_70, x88_71, x88_72, x88_73, x88_76, x88_79, x88_80, ↓reduceIte, zkl_i, zkl_r, zkl_n, zkl_z, zkl_l, Option.toList_some, Option.toList_none, List.cons_append, List.nil_append, zcs_0, zcs_i, zcs_l, zcs_r, zle8, true_and, and_true, true_or, or_true, e9, nI_ltI, Nat.lt_irrefl, if_false]
      rfl
    | succ d ih =>
      intro k X v hk hX
      have hk2 : k < tn (D 28 9) := by omega
      obtain ⟨e0, e3, e6, e9⟩ := CD_8 h hX.2.2
      have hh := fun Q => c_hushHelps (xl := xl) (J := J) (Q := Q) (b := 1 <<< (nI k &&& 31)) hX.1
      have hP := P1 (b := 1 <<< (nI k &&& 31)) hX
      rw [hs1]
      by_cases hz : hsH D (1 <<< (nI k &&& 31)) = 0
      · rw [if_pos hz]
        obtain ⟨X', g1, g2⟩ := ih (k + 1) _ _ (by omega) hP
        refine ⟨X', fun Q => ?_, g2⟩
        rw [← g1 Q, h88_37]
        simp (disch := first | assumption | omega | (simp (disch := omega) only [zr_n, zr_s]; assumption)) only [x88_38, x88_39_0, x88_42_8, x88_42_28, x88_45, x88_48, x88_49, x88_50, x88_51, x88_52, x88_55, x88_58, x88_59_0, x88_62, x88_63, x88_64, x88_65, x88_66_0, x88_69, x88_70, x88_71, x88_72, x88_73, x88_76, gc_0, ↓reduceIte, zkl_i, zkl_r, zkl_n, zkl_z, zkl_l, Option.toList_some, Option.toList_none, List.cons_append, List.nil_append, zcs_0, zcs_i, zcs_l, zcs_r, zle8, true_and, and_true, true_or, or_true, e9, nI_ltI, hk2, if_true, hh, hz, na_1]
      · rw [if_neg hz]
        refine ⟨zr (zps 38 28 (da X (1 <<< (nI k &&& 31)))) 62 (upd (upd f0 0 1) 1 (nI k)), fun Q => ?_, by rw [zr_s], Tr_zr (by omega) hP.2.2⟩
        rw [h88_37]
        simp (disch := first | assumption | omega | (simp (disch := omega) only [zr_n, zr_s]; assumption)) only [x88_38, x88_39_0, x88_42_8, x88_42_28, x88_45, x88_48, x88_49, x88_50, x88_51, x88_52, x88_55, x88_58, x88_59_0, x88_62, x88_63, x88_64, x88_65, x88_66_0, x88_69, x88_70, x88_71, x88_72, x88_73, x88_76, gc_0, bi_62, bs_62, ↓reduceIte, zkl_i, zkl_r, zkl_n, zkl_z, zkl_l, Option.toList_some, Option.toList_none, List.cons_append, List.nil_append, zcs_0, zcs_i, zcs_l, zcs_r, zle8, true_and, and_true, true_or, or_true, e9, nI_ltI, hk2, if_true, hh, hz, if_false, ix3, t0, t12, zr_s, zr_zr, hP.2.1]
  have hX0 : CD 28 (ztf (zr I 62 f0)) (da D (D 28 13)) ∧ ztf (zr I 62 f0) 62 = f0 ∧ Tr I (ztf (zr I 62 f0)) := by
    refine ⟨?_, ?_, Tr_trans (Tr_zr (by omega) (Tr_refl I)) Tr_ztf⟩
    · rw [da_id]
      exact CD_ztf (Tr_CD (Tr_zr (by omega) (Tr_refl I)) h)
    · rw [Tr_ztf_62, zr_s]
  have hh := fun Q => c_hushHelps (xl := xl) (J := J) (Q := Q) (b := 0) hX0.1
  have hP := P1 (b := 0) hX0
  rw [hsR]
  by_cases hz : hsH D 0 = 0
  · rw [if_pos hz]
    obtain ⟨X', g1, g2⟩ := L1 (tn (D 28 9)) 0 _ _ (Nat.zero_add _) hP
    refine ⟨X', fun Q => ?_, g2⟩
    rw [← g1 Q]
    simp (disch := first | assumption | omega | (simp (disch := omega) only [zr_n, zr_s]; assumption)) only [x88_0, x88_1_0, x88_4, x88_5, x88_8, x88_9_0, x88_12, x88_13_0, x88_16, x88_19, x88_20, x88_21, x88_24, x88_27, x88_28_0, x88_31, x88_32, x88_33, x88_34, x88_35, x88_36, gc_0, gc_8, gc_28, ↓reduceIte, zkl_i, zkl_r, zkl_n, zkl_z, zkl_l, Option.toList_some, Option.toList_none, List.cons_append, List.nil_append, zcs_0, zcs_i, zcs_l, zcs_r, zle8, true_and, and_true, true_or, or_true, c_fill_62, c_takeFrom, hf0, hh, hz, if_true]
    rfl
  · rw [if_neg hz]
    refine ⟨zr (zps 38 28 (da (ztf (zr I 62 f0)) 0)) 62 (upd f0 0 0), fun Q => ?_, by rw [zr_s], Tr_zr (by omega) hP.2.2⟩
    simp (disch := first | assumption | omega | (simp (disch := omega) only [zr_n, zr_s]; assumption)) only [x88_0, x88_1_0, x88_4, x88_5, x88_8, x88_9_0, x88_12, x88_13_0, x88_16, x88_19, x88_20, x88_21, x88_24, x88_27, x88_28_0, x88_31, x88_32, x88_33, x88_34, x88_35, x88_36, gc_0, gc_8, gc_28, bi_62, bs_62, ↓reduceIte, zkl_i, zkl_r, zkl_n, zkl_z, zkl_l, Option.toList_some, Option.toList_none, List.cons_append, List.nil_append, zcs_0, zcs_i, zcs_l, zcs_r, zle8, true_and, and_true, true_or, or_true, c_fill_62, c_takeFrom, hf0, hh, hz, if_false, ix3, t0, zr_s, zr_zr, hP.2.1]
end

/-! ===== digest: the class ===== -/
def mx (h : Int64) (v : Int32) : Int64 := 31 * h + v.toInt64
def dgA (I : zI) : Int64 := fo (fun t h => mx h (flD I t)) 3 0 (fo (fun k h => mx h (cnD I k)) 8 0 17)
def dgS (D : zI) (x : Int64) : Int64 := fo (fun i h => mx (mx h (dnD D i 0)) (dnD D i 1)) (tn (D 28 6)) 0 (fo (fun i h => mx (mx h (shD D i 0)) (shD D i 1)) 16 0 x)
def dgL1 (I D : zI) (i : Nat) (h : Int64) : Int64 := 31 * (31 * mx (fo (fun w h => mx h (mgD D i (nI w))) 3 0 (fo (fun w h => mx h (lnD D i (nI w))) 3 0 h)) (knF I D i) + chA D 5 i 0) + chA D 5 i 1
def dgL (I D : zI) (x : Int64) : Int64 := fo (dgL1 I D) (tn (D 28 0)) 0 x
def asK (I D : zI) (k : Nat) : Int32 := asB (fun m => gaF (kpF I D k) (fun a => mkD (dk D k (nI a)) (nI m)))
def dgR1 (I D : zI) (i : Nat) (h : Int64) : Int64 := mx (mx (fo (fun w h => mx h (ngD D i (nI w))) 4 0 (mx (mx h (rdD D i 0)) (rdD D i 1))) (kpF I D i)) (asK I D i)
def dgR (I D : zI) (x : Int64) : Int64 := fo (dgR1 I D) (tn (D 28 3)) 0 x
def dgM (D : zI) (x : Int64) : Int64 := fo (fun m h => mx h (maD D m)) 24 0 x
def dgP (I D : zI) (x : Int64) : Int64 := mx (mx (mx (mx (mx (mx (mx (mx (mx (mx (mx (mx (mx (mx (mx (mx x (hD D)) (wsD D)) (urD D)) (pdD D)) (moA 10 (moS D) 0)) (moA 10 (moS D) 1)) (moA 10 (moS D) 2)) (ltF (fun v => hD (dl D v)) 24 1)) (moA 16 (tuS D) 0)) (moA 16 (tuS D) 1)) (moA 16 (tuS D) 2)) (hsA (tn (D 28 9)) (hsH D) (-1))) (hsA (tn (D 28 9)) (hsH D) 0)) (nvF I D)) (dyF D 7 12 0)) (dyF D 7 12 1)
def dgF (I D : zI) : Int64 := dgP I D (dgM D (dgR I D (dgL I D (dgS D (dgA I)))))
theorem coD_Tr {I X : zI} (h : Tr I X) (D : zI) : coD X D = coD I D := by
  unfold coD
  rw [h 48 (by omega), h 49 (by omega), h 50 (by omega), h 51 (by omega)]
theorem kpF_Tr {I X : zI} (h : Tr I X) (D : zI) (q : Nat) : kpF X D q = kpF I D q := by
  unfold kpF
  simp only [coD_Tr h]
theorem knF_Tr {I X : zI} (h : Tr I X) (D : zI) (q : Nat) : knF X D q = knF I D q := by
  unfold knF
  simp only [coD_Tr h]
theorem nvF_Tr {I X : zI} (h : Tr I X) (D : zI) : nvF X D = nvF I D := by
  unfold nvF
  simp only [coD_Tr h]
theorem asK_Tr {I X : zI} (h : Tr I X) (D : zI) (q : Nat) : asK X D q = asK I D q := by
  unfold asK
  rw [kpF_Tr h]
section
variable {xl : Nat} {J : zJ} {I : zI}
theorem c_mix {Q : zQ} {a b : Int64} : Rn (zG xl) 80 0 [.long a, .null, .long b, .null] [] I J Q = Q (some (.long (31 * a + b))) I J := by
  simp (disch := first | assumption | omega | (simp (disch := omega) only [zr_n, zr_s]; assumption)) only [x80_0, x80_3, x80_4, x80_5, x80_6, x80_7, ↓reduceIte, zkl_i, zkl_r, zkl_n, zkl_z, zkl_l, Option.toList_some, Option.toList_none, List.cons_append, List.nil_append, zcs_0, zcs_i, zcs_l, zcs_r, zle8, true_and, and_true, true_or, or_true]
theorem c_mixBest {Q : zQ} {x : Int64} : Rn (zG xl) 79 0 [.ref 0, .long x, .null] [] I J Q = Q (some (.long (mx (mx (mx x (I 61 0)) (I 61 1)) (I 61 2)))) I J := by
  simp (disch := first | assumption | omega | (simp (disch := omega) only [zr_n, zr_s]; assumption)) only [x79_0, x79_1, x79_2_0, x79_5, x79_6, x79_7, x79_8, x79_11, x79_12_0, x79_15, x79_16, x79_17, x79_18, x79_21, x79_22_0, x79_25, x79_26, x79_27, x79_28, x79_31, bi_61, bs_61, ↓reduceIte, zkl_i, zkl_r, zkl_n, zkl_z, zkl_l, Option.toList_some, Option.toList_none, List.cons_append, List.nil_append, zcs_0, zcs_i, zcs_l, zcs_r, zle8, true_and, and_true, true_or, or_true, ix3, t0, t12, c_mix]
  rfl
theorem dg_shifts {Q : zQ} {x : Int64} (h : RC I) : Rn (zG xl) 75 0 [.ref 0, .long x, .null, .null, .null, .null] [] I J Q = Q (some (.long (dgS (pD I) x))) I J := by
  obtain ⟨e0, e3, e6, e9⟩ := RC_8 h
  obtain ⟨b0, b3, b6, b9⟩ := RC_l h
  have l1 := fo_loop0 (R := fun k (s : Int64) => Rn (zG xl) 75 5 [.ref 0, .long x, .null, .long s, .null, .int (nI k)] [] I J Q) (E := fun s => Rn (zG xl) 75 47 [.ref 0, .long x, .null, .long s, .null, .int (nI 0)] [] I J Q) (f := fun i h => mx (mx h (shD (pD I) i 0)) (shD (pD I) i 1)) (n := 16) (fun k s hk => by
    have q0 := fun Q => q_shift (xl := xl) (J := J) (Q := Q) (k := k) (w := 0) h hk (by decide)
    have q1 := fun Q => q_shift (xl := xl) (J := J) (Q := Q) (k := k) (w := 1) h hk (by decide)
    rw [show nI 0 = 0 from rfl] at q0
    rw [show nI 1 = 1 from rfl] at q1
    rw [h75_5]
    simp (disch := first | assumption | omega | (simp (disch := omega) only [zr_n, zr_s]; assumption)) only [x75_7, x75_9, x75_12, x75_13, x75_14, x75_16, x75_17, x75_20, x75_21, x75_24, x75_25, x75_26, x75_27, x75_29, x75_30, x75_33, x75_34, x75_37, x75_38, x75_41, gc_0, ↓reduceIte, zkl_i, zkl_r, zkl_n, zkl_z, zkl_l, Option.toList_some, Option.toList_none, List.cons_append, List.nil_append, zcs_0, zcs_i, zcs_l, zcs_r, zle8, true_and, and_true, true_or, or_true, nlt_16, hk, if_true, q0, q1, c_mix, na_1]
    rfl) (fun s => by
    rw [h75_5]
    simp (disch := first | assumption | omega | (simp (disch := omega) only [zr_n, zr_s]; assumption)) only [x75_7, x75_9, x75_12, x75_13, x75_14, x75_16, x75_17, x75_20, x75_21, x75_24, x75_25, x75_26, x75_27, x75_29, x75_30, x75_33, x75_34, x75_37, x75_38, x75_41, x75_44, x75_45, ↓reduceIte, zkl_i, zkl_r, zkl_n, zkl_z, zkl_l, Option.toList_some, Option.toList_none, List.cons_append, List.nil_append, zcs_0, zcs_i, zcs_l, zcs_r, zle8, true_and, and_true, true_or, or_true, nlt_16, Nat.lt_irrefl, if_false]
    rfl) x
  have l2 := fun x1 => fo_loop0 (R := fun k (s : Int64) => Rn (zG xl) 75 47 [.ref 0, .long x, .null, .long s, .null, .int (nI k)] [] I J Q) (E := fun s => Q (some (.long s)) I J) (f := fun i h => mx (mx h (dnD (pD I) i 0)) (dnD (pD I) i 1)) (n := tn (pD I 28 6)) (fun k s hk => by
    have q0 := fun Q => q_done (xl := xl) (J := J) (Q := Q) (k := k) (w := 0) h hk (by decide)
    have q1 := fun Q => q_done (xl := xl) (J := J) (Q := Q) (k := k) (w := 1) h hk (by decide)
    rw [show nI 0 = 0 from rfl] at q0
    rw [show nI 1 = 1 from rfl] at q1
    rw [h75_47]
    simp (disch := first | assumption | omega | (simp (disch := omega) only [zr_n, zr_s]; assumption)) only [x75_49, x75_50_0, x75_53_8, x75_53_28, x75_56, x75_59, x75_60, x75_61, x75_63, x75_64, x75_67, x75_68, x75_71, x75_72, x75_73, x75_74, x75_76, x75_77, x75_80, x75_81, x75_84, x75_85, x75_88, gc_0, ↓reduceIte, zkl_i, zkl_r, zkl_n, zkl_z, zkl_l, Option.toList_some, Option.toList_none, List.cons_append, List.nil_append, zcs_0, zcs_i, zcs_l, zcs_r, zle8, true_and, and_true, true_or, or_true, e6, nI_ltI, hk, if_true, q0, q1, c_mix, na_1]
    rfl) (fun s => by
    rw [h75_47]
    simp (disch := first | assumption | omega | (simp (disch := omega) only [zr_n, zr_s]; assumption)) only [x75_49, x75_50_0, x75_53_8, x75_53_28, x75_56, x75_59, x75_60, x75_61, x75_63, x75_64, x75_67, x75_68, x75_71, x75_72, x75_73, x75_74, x75_76, x75_77, x75_80, x75_81, x75_84, x75_85, x75_88, x75_91, x75_92, ↓reduceIte, zkl_i, zkl_r, zkl_n, zkl_z, zkl_l, Option.toList_some, Option.toList_none, List.cons_append, List.nil_append, zcs_0, zcs_i, zcs_l, zcs_r, zle8, true_and, and_true, true_or, or_true, e6, nI_ltI, Nat.lt_irrefl, if_false]) x1
  rw [dgS, ← l2, ← l1]
  simp (disch := first | assumption | omega | (simp (disch := omega) only [zr_n, zr_s]; assumption)) only [x75_0, x75_1, x75_2, x75_3, ↓reduceIte, zkl_i, zkl_r, zkl_n, zkl_z, zkl_l, Option.toList_some, Option.toList_none, List.cons_append, List.nil_append, zcs_0, zcs_i, zcs_l, zcs_r, zle8, true_and, and_true, true_or, or_true]
  rfl
theorem dg_lines {x : Int64} (h : RC I) : ∃ (X : zI) (J' : zJ), (∀ Q : zQ, Rn (zG xl) 76 0 [.ref 0, .long x, .null, .null, .null, .null, .null] [] I J Q = Q (some (.long (dgL I (pD I) x))) X J') ∧ Tr I X := by
  obtain ⟨e0, e3, e6, e9⟩ := RC_8 h
  obtain ⟨b0, b3, b6, b9⟩ := RC_l h
  obtain ⟨X0, J1, w1, w2, w3⟩ := c_weigh (xl := xl) (J := J) (c := 5) (RP_CD h.1)
  have lp := lpE (R := fun k (s : Int64) (v : Value) X Q => Rn (zG xl) 76 10 [.ref 0, .long x, .null, .long s, .null, .int (nI k), v] [] X J1 Q) (E := fun s X Q => Q (some (.long s)) X J1) (f := dgL1 I (pD I)) (n := tn (pD I 28 0)) (P := fun k s X => Tr I X) (P' := fun s X => Tr I X) (fun k s v X hk hT => by
    have hX : RC X := RC_Tr hT h
    have eD : pD X = pD I := pD_Tr hT
    obtain ⟨f0, f3, f6, f9⟩ := CD_8 (RP_CD h.1) hT
    have hkX : k < tn (pD X 28 0) := by rw [eD]; exact hk
    obtain ⟨X1, k1, k2⟩ := c_kind (xl := xl) (J := J1) (Tr_CD hT (RP_CD h.1)) hX.2.1 hk
    rw [knF_Tr hT] at k1
    have f9' : X1 8 9 = nI (tn (pD I 28 9)) := (CD_8 (RP_CD h.1) (Tr_trans hT k2)).2.2.2
    have lw0 := fun Q => c_lowest (xl := xl) (J := J1) (I := X1) (Q := Q) (q := k) (w := 0) f9' b9 (by omega)
    have lw1 := fun Q => c_lowest (xl := xl) (J := J1) (I := X1) (Q := Q) (q := k) (w := 1) f9' b9 (by omega)
    rw [w3 k hk] at lw0 lw1
    have la := fun (Q : zQ) => fo_loop0 (R := fun w (s : Int64) => Rn (zG xl) 76 25 [.ref 0, .long x, .null, .long s, .null, .int (nI k), .int (nI w)] [] X J1 Q) (E := fun s => Rn (zG xl) 76 54 [.ref 0, .long x, .null, .long s, .null, .int (nI k), .int (nI 0)] [] X J1 Q) (f := fun w h => mx h (lnD (pD I) k (nI w))) (n := 3) (fun w s hw => by
      have q0 := fun Q => q_line (xl := xl) (J := J1) (Q := Q) (k := k) (w := w) hX hkX hw
      rw [eD] at q0
      rw [h76_25]
      simp (disch := first | assumption | omega | (simp (disch := omega) only [zr_n, zr_s]; assumption)) only [x76_27, x76_28, x76_31, x76_32, x76_33, x76_35, x76_37, x76_40, x76_41, x76_44, x76_45, x76_48, gc_0, ↓reduceIte, zkl_i, zkl_r, zkl_n, zkl_z, zkl_l, Option.toList_some, Option.toList_none, List.cons_append, List.nil_append, zcs_0, zcs_i, zcs_l, zcs_r, zle8, true_and, and_true, true_or, or_true, nlt_3, hw, if_true, q0, c_mix, na_1]
      rfl) (fun s => by
      rw [h76_25]
      simp (disch := first | assumption | omega | (simp (disch := omega) only [zr_n, zr_s]; assumption)) only [x76_27, x76_28, x76_31, x76_32, x76_33, x76_35, x76_37, x76_40, x76_41, x76_44, x76_45, x76_48, x76_51, x76_52, ↓reduceIte, zkl_i, zkl_r, zkl_n, zkl_z, zkl_l, Option.toList_some, Option.toList_none, List.cons_append, List.nil_append, zcs_0, zcs_i, zcs_l, zcs_r, zle8, true_and, and_true, true_or, or_true, nlt_3, Nat.lt_irrefl, if_false]
      rfl) s
    have lb := fun (Q : zQ) (s1 : Int64) => fo_loop0 (R := fun w (s : Int64) => Rn (zG xl) 76 54 [.ref 0, .long x, .null, .long s, .null, .int (nI k), .int (nI w)] [] X J1 Q) (E := fun s => Rn (zG xl) 76 80 [.ref 0, .long x, .null, .long s, .null, .int (nI k), .int (nI 3)] [] X J1 Q) (f := fun w h => mx h (mgD (pD I) k (nI w))) (n := 3) (fun w s hw => by
      have q0 := fun Q => q_margin (xl := xl) (J := J1) (Q := Q) (k := k) (w := w) hX hkX hw
      rw [eD] at q0
      rw [h76_54]
      simp (disch := first | assumption | omega | (simp (disch := omega) only [zr_n, zr_s]; assumption)) only [x76_56, x76_57, x76_60, x76_61, x76_62, x76_64, x76_66, x76_69, x76_70, x76_73, x76_74, x76_77, gc_0, ↓reduceIte, zkl_i, zkl_r, zkl_n, zkl_z, zkl_l, Option.toList_some, Option.toList_none, List.cons_append, List.nil_append, zcs_0, zcs_i, zcs_l, zcs_r, zle8, true_and, and_true, true_or, or_true, nlt_3, hw, if_true, q0, c_mix, na_1]
      rfl) (fun s => by
      rw [h76_54]
      simp (disch := first | assumption | omega | (simp (disch := omega) only [zr_n, zr_s]; assumption)) only [x76_56, x76_57, ↓reduceIte, zkl_i, zkl_r, zkl_n, zkl_z, zkl_l, Option.toList_some, Option.toList_none, List.cons_append, List.nil_append, zcs_0, zcs_i, zcs_l, zcs_r, zle8, true_and, and_true, true_or, or_true, nlt_3, Nat.lt_irrefl, if_false]) s1
    refine ⟨.int (nI 3), X1, fun Q => ?_, Tr_trans hT k2⟩
    show Rn _ _ _ _ _ _ _ _ = Rn _ _ _ _ _ _ _ _
    have st : Rn (zG xl) 76 10 [.ref 0, .long x, .null, .long s, .null, .int (nI k), v] [] X J1 Q = Rn (zG xl) 76 25 [.ref 0, .long x, .null, .long s, .null, .int (nI k), .int (nI 0)] [] X J1 Q := by
      rw [h76_10]
      simp (disch := first | assumption | omega | (simp (disch := omega) only [zr_n, zr_s]; assumption)) only [x76_12, x76_13_0, x76_16_8, x76_16_28, x76_19, x76_22, x76_23, ↓reduceIte, zkl_i, zkl_r, zkl_n, zkl_z, zkl_l, Option.toList_some, Option.toList_none, List.cons_append, List.nil_append, zcs_0, zcs_i, zcs_l, zcs_r, zle8, true_and, and_true, true_or, or_true, f0, nI_ltI, hk, if_true]
      rfl
    rw [st, la Q, lb Q]
    simp (disch := first | assumption | omega | (simp (disch := omega) only [zr_n, zr_s]; assumption)) only [x76_80, x76_81, x76_82, x76_84, x76_87, x76_88, x76_91, x76_92, x76_93, x76_94, x76_96, x76_97, x76_100, x76_103, x76_104, x76_105, x76_106, x76_108, x76_109, x76_112, x76_115, x76_116, x76_119, gc_0, ↓reduceIte, zkl_i, zkl_r, zkl_n, zkl_z, zkl_l, Option.toList_some, Option.toList_none, List.cons_append, List.nil_append, zcs_0, zcs_i, zcs_l, zcs_r, zle8, true_and, and_true, true_or, or_true, k1, lw0, lw1, c_mix, na_1]
    rfl) (fun s v X hT => by
    obtain ⟨f0, f3, f6, f9⟩ := CD_8 (RP_CD h.1) hT
    refine ⟨X, fun Q => ?_, hT⟩
    show Rn _ _ _ _ _ _ _ _ = _
    rw [h76_10]
    simp (disch := first | assumption | omega | (simp (disch := omega) only [zr_n, zr_s]; assumption)) only [x76_12, x76_13_0, x76_16_8, x76_16_28, x76_19, x76_22, x76_23, x76_27, x76_28, x76_31, x76_32, x76_33, x76_35, x76_37, x76_40, x76_41, x76_44, x76_45, x76_48, x76_51, x76_52, x76_56, x76_57, x76_60, x76_61, x76_62, x76_64, x76_66, x76_69, x76_70, x76_73, x76_74, x76_77, x76_80, x76_81, x76_82, x76_84, x76_87, x76_88, x76_91, x76_92, x76_93, x76_94, x76_96, x76_97, x76_100, x76_103, x76_104, x76_105, x76_106, x76_108, x76_109, x76_112, x76_115, x76_116, x76_119, x76_122, x76_123, ↓reduceIte, zkl_i, zkl_r, zkl_n, zkl_z, zkl_l, Option.toList_some, Option.toList_none, List.cons_append, List.nil_append, zcs_0, zcs_i, zcs_l, zcs_r, zle8, true_and, and_true, true_or, or_true, f0, nI_ltI, Nat.lt_irrefl, if_false]) (tn (pD I 28 0)) 0 x .null X0 (Nat.zero_add _) w2
  obtain ⟨X, g1, g2⟩ := lp
  refine ⟨X, J1, fun Q => ?_, g2⟩
  rw [dgL]
  refine Eq.trans ?_ (g1 Q)
  simp (disch := first | assumption | omega | (simp (disch := omega) only [zr_n, zr_s]; assumption)) only [x76_0, x76_1, x76_2, x76_3, x76_4, x76_7, x76_8, gc_0, ↓reduceIte, zkl_i, zkl_r, zkl_n, zkl_z, zkl_l, Option.toList_some, Option.toList_none, List.cons_append, List.nil_append, zcs_0, zcs_i, zcs_l, zcs_r, zle8, true_and, and_true, true_or, or_true, w1]
  rfl
theorem dg_readers {x : Int64} (h : RC I) : ∃ X : zI, (∀ Q : zQ, Rn (zG xl) 77 0 [.ref 0, .long x, .null, .null, .null, .null, .null] [] I J Q = Q (some (.long (dgR I (pD I) x))) X J) ∧ Tr I X := by
  obtain ⟨e0, e3, e6, e9⟩ := RC_8 h
  obtain ⟨b0, b3, b6, b9⟩ := RC_l h
  have lp := lpE (R := fun k (s : Int64) (v : Value) X Q => Rn (zG xl) 77 5 [.ref 0, .long x, .null, .long s, .null, .int (nI k), v] [] X J Q) (E := fun s X Q => Q (some (.long s)) X J) (f := dgR1 I (pD I)) (n := tn (pD I 28 3)) (P := fun k s X => Tr I X) (P' := fun s X => Tr I X) (fun k s v X hk hT => by
    have hX : RC X := RC_Tr hT h
    have eD : pD X = pD I := pD_Tr hT
    obtain ⟨f0, f3, f6, f9⟩ := CD_8 (RP_CD h.1) hT
    have hkX : k < tn (pD X 28 3) := by rw [eD]; exact hk
    obtain ⟨X1, k1, k2⟩ := q_keens (xl := xl) (J := J) hX hkX
    rw [eD, kpF_Tr hT] at k1
    have hX1 : RC X1 := RC_Tr k2 hX
    have eD1 : pD X1 = pD I := (pD_Tr k2).trans eD
    obtain ⟨X2, a1, a2⟩ := q_ask (xl := xl) (J := J) (k := k) hX1 (by rw [eD1]; exact hk)
    have ha : asB (fun m => gaF (kpF X1 (pD X1) k) (fun a => mkD (dk (pD X1) k (nI a)) (nI m))) = asK I (pD I) k := by
      rw [eD1]
      exact asK_Tr (Tr_trans hT k2) (pD I) k
    rw [ha] at a1
    have q0 := fun Q => q_reader (xl := xl) (J := J) (Q := Q) (k := k) (w := 0) hX hkX (by decide)
    have q1 := fun Q => q_reader (xl := xl) (J := J) (Q := Q) (k := k) (w := 1) hX hkX (by decide)
    rw [show nI 0 = 0 from rfl, eD] at q0
    rw [show nI 1 = 1 from rfl, eD] at q1
    have la := fun (Q : zQ) (s1 : Int64) => fo_loop0 (R := fun w (s : Int64) => Rn (zG xl) 77 46 [.ref 0, .long x, .null, .long s, .null, .int (nI k), .int (nI w)] [] X J Q) (E := fun s => Rn (zG xl) 77 72 [.ref 0, .long x, .null, .long s, .null, .int (nI k), .int (nI 4)] [] X J Q) (f := fun w h => mx h (ngD (pD I) k (nI w))) (n := 4) (fun w s hw => by
      have q0 := fun Q => q_night (xl := xl) (J := J) (Q := Q) (k := k) (w := w) hX hkX hw
      rw [eD] at q0
      rw [h77_46]
      simp (disch := first | assumption | omega | (simp (disch := omega) only [zr_n, zr_s]; assumption)) only [x77_48, x77_49, x77_52, x77_53, x77_54, x77_56, x77_58, x77_61, x77_62, x77_65, x77_66, x77_69, gc_0, ↓reduceIte, zkl_i, zkl_r, zkl_n, zkl_z, zkl_l, Option.toList_some, Option.toList_none, List.cons_append, List.nil_append, zcs_0, zcs_i, zcs_l, zcs_r, zle8, true_and, and_true, true_or, or_true, nlt_4, hw, if_true, q0, c_mix, na_1]
      rfl) (fun s => by
      rw [h77_46]
      simp (disch := first | assumption | omega | (simp (disch := omega) only [zr_n, zr_s]; assumption)) only [x77_48, x77_49, ↓reduceIte, zkl_i, zkl_r, zkl_n, zkl_z, zkl_l, Option.toList_some, Option.toList_none, List.cons_append, List.nil_append, zcs_0, zcs_i, zcs_l, zcs_r, zle8, true_and, and_true, true_or, or_true, nlt_4, Nat.lt_irrefl, if_false]) s1
    refine ⟨.int (nI 4), X2, fun Q => ?_, Tr_trans hT (Tr_trans k2 a2)⟩
    show Rn _ _ _ _ _ _ _ _ = Rn _ _ _ _ _ _ _ _
    have st : Rn (zG xl) 77 5 [.ref 0, .long x, .null, .long s, .null, .int (nI k), v] [] X J Q = Rn (zG xl) 77 46 [.ref 0, .long x, .null, .long (mx (mx s (rdD (pD I) k 0)) (rdD (pD I) k 1)), .null, .int (nI k), .int (nI 0)] [] X J Q := by
      rw [h77_5]
      simp (disch := first | assumption | omega | (simp (disch := omega) only [zr_n, zr_s]; assumption)) only [x77_7, x77_8_0, x77_11_8, x77_11_28, x77_14, x77_17, x77_18, x77_19, x77_21, x77_22, x77_25, x77_26, x77_29, x77_30, x77_31, x77_32, x77_34, x77_35, x77_38, x77_39, x77_42, x77_43, x77_44, gc_0, ↓reduceIte, zkl_i, zkl_r, zkl_n, zkl_z, zkl_l, Option.toList_some, Option.toList_none, List.cons_append, List.nil_append, zcs_0, zcs_i, zcs_l, zcs_r, zle8, true_and, and_true, true_or, or_true, f3, nI_ltI, hk, if_true, q0, q1, c_mix]
      rfl
    rw [st, la Q]
    simp (disch := first | assumption | omega | (simp (disch := omega) only [zr_n, zr_s]; assumption)) only [x77_72, x77_73, x77_74, x77_76, x77_79, x77_80, x77_83, x77_84, x77_85, x77_86, x77_88, x77_91, x77_92, x77_95, x77_96, x77_99, gc_0, ↓reduceIte, zkl_i, zkl_r, zkl_n, zkl_z, zkl_l, Option.toList_some, Option.toList_none, List.cons_append, List.nil_append, zcs_0, zcs_i, zcs_l, zcs_r, zle8, true_and, and_true, true_or, or_true, k1, a1, c_mix, na_1]
    rfl) (fun s v X hT => by
    obtain ⟨f0, f3, f6, f9⟩ := CD_8 (RP_CD h.1) hT
    refine ⟨X, fun Q => ?_, hT⟩
    show Rn _ _ _ _ _ _ _ _ = _
    rw [h77_5]
    simp (disch := first | assumption | omega | (simp (disch := omega) only [zr_n, zr_s]; assumption)) only [x77_7, x77_8_0, x77_11_8, x77_11_28, x77_14, x77_17, x77_18, x77_19, x77_21, x77_22, x77_25, x77_26, x77_29, x77_30, x77_31, x77_32, x77_34, x77_35, x77_38, x77_39, x77_42, x77_43, x77_44, x77_48, x77_49, x77_52, x77_53, x77_54, x77_56, x77_58, x77_61, x77_62, x77_65, x77_66, x77_69, x77_72, x77_73, x77_74, x77_76, x77_79, x77_80, x77_83, x77_84, x77_85, x77_86, x77_88, x77_91, x77_92, x77_95, x77_96, x77_99, x77_102, x77_103, ↓reduceIte, zkl_i, zkl_r, zkl_n, zkl_z, zkl_l, Option.toList_some, Option.toList_none, List.cons_append, List.nil_append, zcs_0, zcs_i, zcs_l, zcs_r, zle8, true_and, and_true, true_or, or_true, f3, nI_ltI, Nat.lt_irrefl, if_false]) (tn (pD I 28 3)) 0 x .null I (Nat.zero_add _) (Tr_refl I)
  obtain ⟨X, g1, g2⟩ := lp
  refine ⟨X, fun Q => ?_, g2⟩
  rw [dgR]
  refine Eq.trans ?_ (g1 Q)
  simp (disch := first | assumption | omega | (simp (disch := omega) only [zr_n, zr_s]; assumption)) only [x77_0, x77_1, x77_2, x77_3, ↓reduceIte, zkl_i, zkl_r, zkl_n, zkl_z, zkl_l, Option.toList_some, Option.toList_none, List.cons_append, List.nil_append, zcs_0, zcs_i, zcs_l, zcs_r, zle8, true_and, and_true, true_or, or_true]
  rfl
theorem dg_plans {x : Int64} (h : RC I) : ∃ X : zI, (∀ Q : zQ, Rn (zG xl) 78 0 [.ref 0, .long x, .null, .null, .null] [] I J Q = Q (some (.long (dgP I (pD I) x))) X J) ∧ Tr I X := by
  have hC := RP_CD h.1
  have h16 := RP_16 h.1
  have q1 := fun Q => q_harm (xl := xl) (J := J) (Q := Q) h
  have q2 := fun Q => q_worst (xl := xl) (J := J) (Q := Q) h
  have q3 := fun Q => q_left (xl := xl) (J := J) (Q := Q) (w := 0) h (by decide)
  have q4 := fun Q => q_left (xl := xl) (J := J) (Q := Q) (w := 1) h (by decide)
  rw [show nI 0 = 0 from rfl] at q3
  rw [show nI 1 = 1 from rfl] at q4
  obtain ⟨X1, a1, a2, a3⟩ := c_findMore (xl := xl) (J := J) hC h16
  obtain ⟨X2, b1, b2⟩ := c_late (xl := xl) (J := J) (Tr_CD a3 hC)
  have t2 := Tr_trans a3 b2
  obtain ⟨X3, c1, c2, c3⟩ := c_findTurn (xl := xl) (J := J) (Tr_CD t2 hC)
  have t3 := Tr_trans t2 c3
  obtain ⟨X4, d1, d2, d3⟩ := c_findHush (xl := xl) (J := J) (Tr_CD t3 hC)
  have t4 := Tr_trans t3 d3
  obtain ⟨X5, e1, e2⟩ := c_never (xl := xl) (J := J) (Tr_CD t4 hC) (Tr_SG t4 h.2.1)
  have t5 := Tr_trans t4 e2
  rw [nvF_Tr t4] at e1
  obtain ⟨X6, f1, f2⟩ := c_days (xl := xl) (J := J) (s := 7) (w := 0) (n := 12) (Tr_CD t5 hC) (by decide) (Or.inl rfl)
  have t6 := Tr_trans t5 f2
  obtain ⟨X7, g1, g2⟩ := c_days (xl := xl) (J := J) (s := 7) (w := 1) (n := 12) (Tr_CD t6 hC) (by decide) (Or.inr rfl)
  rw [show nI 12 = 12 from rfl] at f1 g1
  have m0 := mo_eq (f := I 61) (w := 0) hC.2.1 (RP_gv h.1) (by decide)
  have m1 := mo_eq (f := I 61) (w := 1) hC.2.1 (RP_gv h.1) (by decide)
  have m2 := mo_eq (f := I 61) (w := 2) hC.2.1 (RP_gv h.1) (by decide)
  rw [← a2] at m0 m1 m2
  have u0 := tu_eq (f := X2 61) (w := 0) hC.2.1 (RP_gv h.1) h16 (by decide)
  have u1 := tu_eq (f := X2 61) (w := 1) hC.2.1 (RP_gv h.1) h16 (by decide)
  have u2 := tu_eq (f := X2 61) (w := 2) hC.2.1 (RP_gv h.1) h16 (by decide)
  rw [← c2] at u0 u1 u2
  obtain ⟨v0, v1, v2⟩ := hs_eq (tn (pD I 28 9)) (hsH (pD I)) (X3 62)
  rw [← d2] at v0 v1 v2
  refine ⟨X7, fun Q => ?_, Tr_trans t6 g2⟩
  simp (disch := first | assumption | omega | (simp (disch := omega) only [zr_n, zr_s]; assumption)) only [x78_0, x78_1, x78_2, x78_5, x78_6, x78_9, x78_10, x78_11, x78_12, x78_15, x78_16, x78_19, x78_20, x78_21, x78_22, x78_23, x78_26, x78_27, x78_30, x78_31, x78_32, x78_33, x78_34, x78_37, x78_38, x78_41, x78_42, x78_43, x78_46, x78_47, x78_48, x78_51, x78_52, x78_53, x78_54, x78_57, x78_58, x78_61, x78_62, x78_63, x78_66, x78_67, x78_68, x78_71, x78_72, x78_73, x78_76, x78_77, x78_78_0, x78_81, x78_82, x78_83, x78_84, x78_87, x78_88, x78_89, x78_90_0, x78_93, x78_94, x78_95, x78_96, x78_99, x78_100, x78_101, x78_102, x78_105, x78_106, x78_109, x78_110, x78_111, x78_112, x78_114, x78_116, x78_117, x78_120, x78_121, x78_124, x78_125, x78_126, x78_127, x78_129, x78_131, x78_132, x78_135, x78_136, x78_139, gc_0, bi_62, bs_62, ↓reduceIte, zkl_i, zkl_r, zkl_n, zkl_z, zkl_l, Option.toList_some, Option.toList_none, List.cons_append, List.nil_append, zcs_0, zcs_i, zcs_l, zcs_r, zle8, true_and, and_true, true_or, or_true, q1, q2, q3, q4, i0_0, i1_0, if_true, if_false, c_mix, a1, c_mixBest, b1, c1, d1, ix3, t0, t12, e1, f1, g1]
  rw [dgP, ← m0, ← m1, ← m2, ← u0, ← u1, ← u2, v0, v1]
  rfl
theorem dg_digest (h : RC I) : ∃ (X : zI) (J' : zJ), (∀ Q : zQ, Rn (zG xl) 74 0 [.ref 0, .null, .null, .null] [] I J Q = Q (some (.long (dgF I (pD I)))) X J') ∧ Tr I X := by
  obtain ⟨X1, J1, a1, a2⟩ := dg_lines (xl := xl) (J := J) (x := dgS (pD I) (dgA I)) h
  have h1 : RC X1 := RC_Tr a2 h
  obtain ⟨X2, b1, b2⟩ := dg_readers (xl := xl) (J := J1) (x := dgL I (pD I) (dgS (pD I) (dgA I))) h1
  have h2 : RC X2 := RC_Tr b2 h1
  have e1 : pD X1 = pD I := pD_Tr a2
  have e2 : pD X2 = pD I := (pD_Tr b2).trans e1
  have eR : dgR X1 (pD I) = dgR I (pD I) := by
    funext x
    unfold dgR
    congr 1
    funext i y
    unfold dgR1
    rw [kpF_Tr a2, asK_Tr a2]
  rw [e1, eR] at b1
  obtain ⟨X3, c1, c2⟩ := dg_plans (xl := xl) (J := J1) (x := dgM (pD I) (dgR I (pD I) (dgL I (pD I) (dgS (pD I) (dgA I))))) h2
  have eP : ∀ x, dgP X2 (pD I) x = dgP I (pD I) x := by
    intro x
    unfold dgP
    rw [nvF_Tr (Tr_trans a2 b2)]
  rw [e2, eP] at c1
  refine ⟨X3, J1, fun Q => ?_, Tr_trans a2 (Tr_trans b2 c2)⟩
  have l1 := fo_loop0 (R := fun k (s : Int64) => Rn (zG xl) 74 6 [.ref 0, .long s, .null, .int (nI k)] [] I J Q) (E := fun s => Rn (zG xl) 74 31 [.ref 0, .long s, .null, .int (nI 0)] [] I J Q) (f := fun k h => mx h (cnD I k)) (n := 8) (fun k s hk => by
    have q0 := fun Q => q_count (xl := xl) (J := J) (Q := Q) (I := I) (w := k) (by omega)
    have n7 : ¬ (7 : Int32) < nI k := by
      rw [show (7 : Int32) = nI 7 from rfl, nI_ltI (by decide) (by omega)]
      omega
    rw [h74_6]
    simp (disch := first | assumption | omega | (simp (disch := omega) only [zr_n, zr_s]; assumption)) only [x74_7, x74_9, x74_12, x74_13, x74_14, x74_15, x74_18, x74_19, x74_22, x74_23, x74_26, gc_0, ↓reduceIte, zkl_i, zkl_r, zkl_n, zkl_z, zkl_l, Option.toList_some, Option.toList_none, List.cons_append, List.nil_append, zcs_0, zcs_i, zcs_l, zcs_r, zle8, true_and, and_true, true_or, or_true, n7, if_false, q0, c_mix, na_1]
    rfl) (fun s => by
    have n7 : (7 : Int32) < nI 8 := by decide
    rw [h74_6]
    simp (disch := first | assumption | omega | (simp (disch := omega) only [zr_n, zr_s]; assumption)) only [x74_7, x74_9, x74_12, x74_13, x74_14, x74_15, x74_18, x74_19, x74_22, x74_23, x74_26, x74_29, x74_30, ↓reduceIte, zkl_i, zkl_r, zkl_n, zkl_z, zkl_l, Option.toList_some, Option.toList_none, List.cons_append, List.nil_append, zcs_0, zcs_i, zcs_l, zcs_r, zle8, true_and, and_true, true_or, or_true, n7, if_true]
    rfl) 17
  have l2 := fun x1 => fo_loop0 (R := fun k (s : Int64) => Rn (zG xl) 74 31 [.ref 0, .long s, .null, .int (nI k)] [] I J Q) (E := fun s => Rn (zG xl) 74 53 [.ref 0, .long s, .null, .int (nI 3)] [] I J Q) (f := fun t h => mx h (flD I t)) (n := 3) (fun k s hk => by
    have q0 := fun Q => q_fault (xl := xl) (J := J) (Q := Q) (w := k) h hk
    rw [h74_31]
    simp (disch := first | assumption | omega | (simp (disch := omega) only [zr_n, zr_s]; assumption)) only [x74_32, x74_33, x74_36, x74_37, x74_38, x74_39, x74_42, x74_43, x74_46, x74_47, x74_50, gc_0, ↓reduceIte, zkl_i, zkl_r, zkl_n, zkl_z, zkl_l, Option.toList_some, Option.toList_none, List.cons_append, List.nil_append, zcs_0, zcs_i, zcs_l, zcs_r, zle8, true_and, and_true, true_or, or_true, nlt_3, hk, if_true, q0, c_mix, na_1]
    rfl) (fun s => by
    rw [h74_31]
    simp (disch := first | assumption | omega | (simp (disch := omega) only [zr_n, zr_s]; assumption)) only [x74_32, x74_33, ↓reduceIte, zkl_i, zkl_r, zkl_n, zkl_z, zkl_l, Option.toList_some, Option.toList_none, List.cons_append, List.nil_append, zcs_0, zcs_i, zcs_l, zcs_r, zle8, true_and, and_true, true_or, or_true, nlt_3, Nat.lt_irrefl, if_false]) x1
  have l3 := fun x1 => fo_loop0 (R := fun k (s : Int64) => Rn (zG xl) 74 73 [.ref 0, .long s, .null, .int (nI k)] [] X2 J1 Q) (E := fun s => Rn (zG xl) 74 96 [.ref 0, .long s, .null, .int (nI 24)] [] X2 J1 Q) (f := fun m h => mx h (maD (pD I) m)) (n := 24) (fun k s hk => by
    have q0 := fun Q => q_marked (xl := xl) (J := J1) (Q := Q) (k := k) h2 hk
    rw [e2] at q0
    rw [h74_73]
    simp (disch := first | assumption | omega | (simp (disch := omega) only [zr_n, zr_s]; assumption)) only [x74_74, x74_76, x74_79, x74_80, x74_81, x74_82, x74_85, x74_86, x74_89, x74_90, x74_93, gc_0, ↓reduceIte, zkl_i, zkl_r, zkl_n, zkl_z, zkl_l, Option.toList_some, Option.toList_none, List.cons_append, List.nil_append, zcs_0, zcs_i, zcs_l, zcs_r, zle8, true_and, and_true, true_or, or_true, nlt_24, hk, if_true, q0, c_mix, na_1]
    rfl) (fun s => by
    rw [h74_73]
    simp (disch := first | assumption | omega | (simp (disch := omega) only [zr_n, zr_s]; assumption)) only [x74_74, x74_76, ↓reduceIte, zkl_i, zkl_r, zkl_n, zkl_z, zkl_l, Option.toList_some, Option.toList_none, List.cons_append, List.nil_append, zcs_0, zcs_i, zcs_l, zcs_r, zle8, true_and, and_true, true_or, or_true, nlt_24, Nat.lt_irrefl, if_false]) x1
  have sh := fun Q x => dg_shifts (xl := xl) (J := J) (Q := Q) (x := x) h
  have st : Rn (zG xl) 74 0 [.ref 0, .null, .null, .null] [] I J Q = Rn (zG xl) 74 6 [.ref 0, .long 17, .null, .int (nI 0)] [] I J Q := by
    simp (disch := first | assumption | omega | (simp (disch := omega) only [zr_n, zr_s]; assumption)) only [x74_0, x74_3, x74_4, x74_5, ↓reduceIte, zkl_i, zkl_r, zkl_n, zkl_z, zkl_l, Option.toList_some, Option.toList_none, List.cons_append, List.nil_append, zcs_0, zcs_i, zcs_l, zcs_r, zle8, true_and, and_true, true_or, or_true]
    rfl
  rw [st, l1, l2]
  have st2 : Rn (zG xl) 74 53 [.ref 0, .long (dgA I), .null, .int (nI 3)] [] I J Q = Rn (zG xl) 74 73 [.ref 0, .long (dgR I (pD I) (dgL I (pD I) (dgS (pD I) (dgA I)))), .null, .int (nI 0)] [] X2 J1 Q := by
    simp (disch := first | assumption | omega | (simp (disch := omega) only [zr_n, zr_s]; assumption)) only [x74_53, x74_54, x74_55, x74_58, x74_59, x74_60, x74_61, x74_64, x74_65, x74_66, x74_67, x74_70, x74_71, x74_72, gc_0, ↓reduceIte, zkl_i, zkl_r, zkl_n, zkl_z, zkl_l, Option.toList_some, Option.toList_none, List.cons_append, List.nil_append, zcs_0, zcs_i, zcs_l, zcs_r, zle8, true_and, and_true, true_or, or_true, sh, a1, b1]
    rfl
  refine (Eq.trans st2 ?_)
  rw [l3]
  have st3 : Rn (zG xl) 74 96 [.ref 0, .long (dgM (pD I) (dgR I (pD I) (dgL I (pD I) (dgS (pD I) (dgA I))))), .null, .int (nI 24)] [] X2 J1 Q = Q (some (.long (dgF I (pD I)))) X3 J1 := by
    simp (disch := first | assumption | omega | (simp (disch := omega) only [zr_n, zr_s]; assumption)) only [x74_96, x74_97, x74_98, x74_101, gc_0, ↓reduceIte, zkl_i, zkl_r, zkl_n, zkl_z, zkl_l, Option.toList_some, Option.toList_none, List.cons_append, List.nil_append, zcs_0, zcs_i, zcs_l, zcs_r, zle8, true_and, and_true, true_or, or_true, c1]
    rfl
  exact st3
end

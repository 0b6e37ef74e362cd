/-! ===== both ways of asking come to the same ===== -/
theorem fo_add {α : Type} {f : Nat → α → α} : ∀ (d e k : Nat) (s : α), fo f (d + e) k s = fo f e (k + d) (fo f d k s) := by
  intro d
  induction d with
  | zero => intro e k s; rw [Nat.zero_add]; rfl
  | succ d ih =>
    intro e k s
    rw [show d + 1 + e = (d + e) + 1 by omega, fo, fo, ih e (k + 1) (f k s), show k + 1 + d = k + (d + 1) by omega]
theorem fo_sh {α : Type} {f : Nat → α → α} {m : Nat} : ∀ (d k : Nat) (s : α), fo f d (m + k) s = fo (fun j s => f (m + j) s) d k s := by
  intro d
  induction d with
  | zero => intro k s; rfl
  | succ d ih => intro k s; rw [fo, fo, ← ih (k + 1)]; rfl
theorem fo_split {α : Type} {f : Nat → α → α} {a : Nat} : ∀ (n : Nat) (s : α), fo f (a * n) 0 s = fo (fun r s => fo (fun j s => f (a * r + j) s) a 0 s) n 0 s := by
  intro n
  induction n with
  | zero => intro s; rfl
  | succ n ih =>
    intro s
    rw [fo_snoc, ← ih s, Nat.mul_succ, fo_add, Nat.zero_add, Nat.zero_add]
    exact fo_sh (m := a * n) a 0 _
theorem fo_same {α : Type} {f : Nat → α → α} : ∀ (d k : Nat) (s : α), (∀ j s, k ≤ j → j < k + d → f j s = s) → fo f d k s = s := by
  intro d
  induction d with
  | zero => intro k s _; rfl
  | succ d ih =>
    intro k s h
    rw [fo, h k s (Nat.le_refl _) (by omega)]
    exact ih (k + 1) s (fun j s a b => h j s (by omega) (by omega))
theorem hD_b {D D' : zI} (hp : Pk 28 D) (hg : ∀ k, k < tn (D 28 0) → ixN (D 30 k) 10) (e30 : D' 30 = D 30) (e0 : D' 28 0 = D 28 0) : ∃ h, h ≤ 90 ∧ hD D' = nI h := by
  unfold hD sp_hm
  rw [e30, e0]
  have b0 := (Pk_l hp).1
  generalize hn : tn (D 28 0) = n at hg b0
  have := fo_inv (f := fun k s => if Nt D' 39 k = -1 then s + D 30 k else s) (n := n) (fun k s => ∃ h, h ≤ 9 * k ∧ s = nI h) (fun k s hk hP => by
    obtain ⟨h, hh, rfl⟩ := hP
    obtain ⟨g, hg2, eg⟩ := (ixN_iff (by decide)).mp (hg k hk)
    by_cases z : Nt D' 39 k = -1
    · rw [if_pos z, eg, nI_add]; exact ⟨h + g, by omega, rfl⟩
    · rw [if_neg z]; exact ⟨h, by omega, rfl⟩) n 0 0 (Nat.zero_add _) ⟨0, by omega, rfl⟩
  obtain ⟨h, hh, e⟩ := this
  exact ⟨h, by omega, e⟩
def RB (m : Nat) (s : Nat → Int32) (x : Int32 × Int32) : Prop := (x = (-1, 999) ∧ s 0 = -1 ∧ s 1 = -1 ∧ s 2 = -1) ∨ ∃ r l h, r < 17 ∧ l < m ∧ h ≤ 90 ∧ x = (nI (m * r + l), nI h) ∧ s 0 = nI r ∧ s 1 = nI l ∧ s 2 = nI h
theorem RB_step {m r l h : Nat} {s : Nat → Int32} {x : Int32 × Int32} {H : Int32} (hr : r < 17) (hl : l < m) (hh : h ≤ 90) (eH : H = nI h) (hR : RB m s x) : RB m (kb (nI r) (nI l) H s) (if H < x.2 then nI (m * r + l) else x.1, if H < x.2 then H else x.2) := by
  subst eH
  have take : RB m (upd (upd (upd s 0 (nI r)) 1 (nI l)) 2 (nI h)) (nI (m * r + l), nI h) := by
    refine Or.inr ⟨r, l, h, hr, hl, hh, rfl, ?_, ?_, ?_⟩
    · rw [upd_n (by decide), upd_n (by decide), upd_s]
    · rw [upd_n (by decide), upd_s]
    · rw [upd_s]
  rcases hR with ⟨rfl, s0, s1, s2⟩ | ⟨r', l', h', hr', hl', hh', rfl, s0, s1, s2⟩
  · have c : nI h < 999 := (nI_ltI (b := 999) (by omega) (by decide)).mpr (by omega)
    unfold kb
    rw [if_pos (Or.inl s2)]
    dsimp only
    rw [if_pos c, if_pos c]
    exact take
  · unfold kb
    dsimp only
    have n1 : ¬ s 2 = -1 := by
      rw [s2, ne_m1 (by omega)]
      exact fun z => z
    by_cases c : nI h < nI h'
    · rw [if_pos (Or.inr (by rw [s2]; exact c)), if_pos c, if_pos c]
      exact take
    · rw [if_neg (by rintro (z | z); exact n1 z; rw [s2] at z; exact c z), if_neg c, if_neg c]
      exact Or.inr ⟨r', l', h', hr', hl', hh', rfl, s0, s1, s2⟩
theorem RB_end {m : Nat} {s : Nat → Int32} {x : Int32 × Int32} {w : Nat} (hm : m = 10 ∨ m = 16) (hw : w < 3) (hR : RB m s x) : moA (nI m) x (nI w) = s w := by
  have hw : w = 0 ∨ w = 1 ∨ w = 2 := by omega
  unfold moA
  rcases hR with ⟨rfl, s0, s1, s2⟩ | ⟨r, l, h, hr, hl, hh, rfl, s0, s1, s2⟩
  · dsimp only
    rw [if_pos rfl]
    rcases hw with rfl | rfl | rfl
    · exact s0.symm
    · exact s1.symm
    · exact s2.symm
  · dsimp only
    have hb : m * r + l < 1000 := by rcases hm with rfl | rfl <;> omega
    have n1 : ¬ nI (m * r + l) = -1 := by
      rw [ne_m1 (by omega)]
      exact fun z => z
    rw [if_neg n1, pk_div (by omega) (by omega) (by omega), pk_mul, pk_sub (Nat.div_mul_le_self _ _)]
    have e1 : (m * r + l) / m = r := by
      rw [Nat.mul_add_div (by omega), Nat.div_eq_of_lt hl, Nat.add_zero]
    rw [e1]
    rcases hw with rfl | rfl | rfl
    · rw [if_pos (show nI 0 = 0 from rfl)]; exact s0.symm
    · rw [if_neg (by decide), if_pos (show nI 1 = 1 from rfl), show m * r + l - r * m = l by rw [Nat.mul_comm r m]; omega]; exact s1.symm
    · rw [if_neg (by decide), if_neg (by decide)]; exact s2.symm
theorem RB_0 (m : Nat) (f : Nat → Int32) : RB m (zfil 3 (-1) f) (-1, 999) := Or.inl ⟨rfl, rfl, rfl, rfl⟩
theorem dm_30 {D : zI} {r l : Int32} : dm D r l 30 = D 30 ∧ dm D r l 28 0 = D 28 0 := by
  unfold dm dp
  constructor
  · simp (disch := omega) only [zr_n]
  · simp (disch := omega) only [zr_n, zr_s, upd_n]
theorem zxc_30 {D : zI} {a b : Nat} : zxc a b D 30 = D 30 ∧ zxc a b D 28 0 = D 28 0 := by
  unfold zxc
  constructor
  · simp (disch := omega) only [zr_n]
  · simp (disch := omega) only [zr_n]
theorem mo_eq {D : zI} {f : Nat → Int32} {w : Nat} (hp : Pk 28 D) (hg : ∀ k, k < tn (D 28 0) → ixN (D 30 k) 10) (hw : w < 3) : moA 10 (moS D) (nI w) = moF D (zfil 3 (-1) f) w := by
  obtain ⟨b0, -, b3, -⟩ := Pk_l hp
  refine RB_end (m := 10) (Or.inl rfl) hw ?_
  unfold moS moF
  rw [fo_split]
  refine fo_rel (n := tn (D 28 3)) (fun k s x => RB 10 s x) (fun r s x hr hR => ?_) _ 0 _ _ (Nat.zero_add _) (RB_0 10 f)
  have e10 : 10 = tn (D 28 0) + (10 - tn (D 28 0)) := by omega
  have hid : ∀ y, fo (fun j (s : Int32 × Int32) => if (10 * r + j) % 10 < tn (D 28 0) then (if hD (dm D (nI ((10 * r + j) / 10)) (nI ((10 * r + j) % 10))) < s.2 then nI (10 * r + j) else s.1, if hD (dm D (nI ((10 * r + j) / 10)) (nI ((10 * r + j) % 10))) < s.2 then hD (dm D (nI ((10 * r + j) / 10)) (nI ((10 * r + j) % 10))) else s.2) else s) (10 - tn (D 28 0)) (0 + tn (D 28 0)) y = y := by
    intro y
    refine fo_same _ _ _ (fun j s j1 j2 => if_neg ?_)
    omega
  have hsp : fo (fun j (s : Int32 × Int32) => if (10 * r + j) % 10 < tn (D 28 0) then (if hD (dm D (nI ((10 * r + j) / 10)) (nI ((10 * r + j) % 10))) < s.2 then nI (10 * r + j) else s.1, if hD (dm D (nI ((10 * r + j) / 10)) (nI ((10 * r + j) % 10))) < s.2 then hD (dm D (nI ((10 * r + j) / 10)) (nI ((10 * r + j) % 10))) else s.2) else s) 10 0 x = fo (fun j (s : Int32 × Int32) => if (10 * r + j) % 10 < tn (D 28 0) then (if hD (dm D (nI ((10 * r + j) / 10)) (nI ((10 * r + j) % 10))) < s.2 then nI (10 * r + j) else s.1, if hD (dm D (nI ((10 * r + j) / 10)) (nI ((10 * r + j) % 10))) < s.2 then hD (dm D (nI ((10 * r + j) / 10)) (nI ((10 * r + j) % 10))) else s.2) else s) (tn (D 28 0)) 0 x := by
    refine Eq.trans ?_ (hid _)
    rw [← fo_add, ← e10]
  rw [hsp]
  refine fo_rel (n := tn (D 28 0)) (fun k s x => RB 10 s x) (fun l s x hl hR => ?_) _ 0 _ _ (Nat.zero_add _) hR
  obtain ⟨h, hh, eh⟩ := hD_b (D' := dm D (nI r) (nI l)) hp hg dm_30.1 dm_30.2
  rw [if_pos (by omega), show (10 * r + l) / 10 = r by omega, show (10 * r + l) % 10 = l by omega]
  exact RB_step (by omega) (by omega) hh eh hR
theorem tu_eq {D : zI} {f : Nat → Int32} {w : Nat} (hp : Pk 28 D) (hg : ∀ k, k < tn (D 28 0) → ixN (D 30 k) 10) (h16 : tn (D 28 6) ≤ 16) (hw : w < 3) : moA 16 (tuS D) (nI w) = tuF D (zfil 3 (-1) f) w := by
  refine RB_end (m := 16) (Or.inr rfl) hw ?_
  unfold tuS tuF
  refine fo_rel (n := tn (D 28 6)) (fun k s x => RB 16 s x) (fun i s x hi hR => ?_) _ 0 _ _ (Nat.zero_add _) (RB_0 16 f)
  refine fo_rel (n := tn (D 28 6)) (fun k s x => RB 16 s x) (fun j s x hj hR => ?_) _ (i + 1) _ _ (by omega) hR
  obtain ⟨h, hh, eh⟩ := hD_b (D' := zxc i j D) hp hg zxc_30.1 zxc_30.2
  exact RB_step (by omega) (by omega) hh eh hR
theorem hs_eq (e : Nat) (H : Int32 → Int32) (f : Nat → Int32) : hsR e H (zfil 3 (-1) f) 0 = hsA e H (-1) ∧ hsR e H (zfil 3 (-1) f) 1 = hsA e H 0 ∧ hsR e H (zfil 3 (-1) f) 2 = hsA e H 1 := by
  have f0 : zfil 3 (-1) f 0 = -1 ∧ zfil 3 (-1) f 1 = -1 ∧ zfil 3 (-1) f 2 = -1 := ⟨rfl, rfl, rfl⟩
  generalize zfil 3 (-1) f = g at f0
  obtain ⟨g0, g1, g2⟩ := f0
  have m1 : ((-1 : Int32) = -1) = True ∧ ((0 : Int32) = -1) = False ∧ ((1 : Int32) = -1) = False ∧ ((-1 : Int32) = 0) = False := by decide
  unfold hsR hsA hsD hsE
  by_cases hz : H 0 = 0
  · rw [if_pos hz]
    cases h1 : hs1 H e 0 with
    | some a =>
      simp (disch := omega) only [hz, if_true, upd_s, upd_n, m1, i0_0, i1_0, if_false, g2, true_and]
    | none =>
      cases h2 : hs2 H e e 0 with
      | some p => simp (disch := omega) only [hz, if_true, upd_s, upd_n, m1, i0_0, i1_0, if_false, true_and]
      | none => simp only [hz, if_true, g0, g1, g2, true_and]
  · simp (disch := omega) only [hz, if_false, upd_s, upd_n, m1, if_true, g1, g2, true_and]
theorem ga_b (p : Int32) (f : Nat → Int32) : ∃ j, j ≤ 9 ∧ gaF p f = nI j := by
  have hi : ∀ a, ∃ j, j ≤ 9 ∧ gaI p f a = nI j := by
    intro a
    have := fo_inv (f := fun b s => if p >>> (nI a &&& 31) &&& p >>> (nI b &&& 31) &&& 1 = 1 then (if f a = f b then s + 1 else s) else s) (n := 10) (fun k s => ∃ j, j + 1 ≤ k ∧ s = nI j) (fun k s hk hP => by
      obtain ⟨j, hj, rfl⟩ := hP
      by_cases z1 : p >>> (nI a &&& 31) &&& p >>> (nI k &&& 31) &&& 1 = 1
      · rw [if_pos z1]
        by_cases z2 : f a = f k
        · rw [if_pos z2, na_1]; exact ⟨j + 1, by omega, rfl⟩
        · rw [if_neg z2]; exact ⟨j, by omega, rfl⟩
      · rw [if_neg z1]; exact ⟨j, by omega, rfl⟩) 9 1 0 rfl ⟨0, by omega, rfl⟩
    obtain ⟨j, hj, e⟩ := this
    exact ⟨j, by omega, e⟩
  exact fo_inv (f := fun a g => if g < gaI p f a then gaI p f a else g) (n := 10) (fun k s => ∃ j, j ≤ 9 ∧ s = nI j) (fun k s hk hP => by
    by_cases z : s < gaI p f k
    · rw [if_pos z]; exact hi k
    · rw [if_neg z]; exact hP) 9 1 0 rfl ⟨0, by omega, rfl⟩
theorem as_eq {G : Nat → Int32} (h : G 0 < 10) : asF G = asB G := by
  unfold asF asB
  have e : fo (fun m (x : Int32 × Int32) => if G m < x.2 then (nI m, G m) else x) 24 0 (0, 10) = fo (fun m (x : Int32 × Int32) => if G m < x.2 then (nI m, G m) else x) 23 1 (0, G 0) := by
    rw [fo]
    dsimp only
    rw [if_pos h]
    rfl
  rw [e]
  have := fo_rel (f := fun m (x : Int32 × Int32) => if G m < x.2 then (nI m, G m) else x) (g := fun m b => if G m < G (tn b) then nI m else b) (n := 24) (fun k x b => x = (b, G (tn b))) (fun k x b hk hP => by
    subst hP
    dsimp only
    by_cases z : G k < G (tn b)
    · rw [if_pos z, if_pos z, tn, nI_clamp (by omega)]
    · rw [if_neg z, if_neg z]) 23 1 (0, G 0) 0 rfl rfl
  rw [this]
theorem fd_01 {D : zI} : ∀ j, j < 17 → Nt D 47 j = 0 ∨ Nt D 47 j = 1 := by
  unfold Nt zps
  refine fo_inv (n := tn (D 28 6)) (fun _ (A : zI) => ∀ j, j < 17 → A 47 j = 0 ∨ A 47 j = 1) (fun k A hk hP => ?_) _ 0 _ (Nat.zero_add _) ?_
  · unfold zsh
    split
    · split
      · by_cases he : sp_e 38 28 A (A (28 + 5) k) < A 28 14
        · obtain ⟨-, -, -, -, -, zn, zy⟩ := zds_rows (N := 38) (P := 28) (i := k) (A := A) (by decide) rfl rfl he
          intro j hj
          by_cases q1 : zF1 38 28 k A (A (28 + 5) k) (A (28 + 6) k) = 0
          · rw [show zds 38 28 k A 47 = A 47 from (zn q1).1]; exact hP j hj
          · rw [show zds 38 28 k A 47 = upd (A 47) k 1 from (zy q1).1]
            by_cases e : j = k
            · subst e; rw [upd_s]; exact Or.inr rfl
            · rw [upd_n e]; exact hP j hj
        · have e : zds 38 28 k A = A := by
            unfold zds
            rw [if_neg he]
          rw [e]; exact hP
      · exact hP
    · exact hP
  · intro j hj
    left
    unfold zfg
    simp (disch := omega) only [zr_s, zr_n, zfil, hj, if_true]

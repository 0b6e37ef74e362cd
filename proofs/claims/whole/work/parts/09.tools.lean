/-! ===== tools: indices, rows of cells, loops as folds ===== -/
abbrev tn (x : Int32) : Nat := x.toNatClampNeg
def ixN (i : Int32) (n : Nat) : Prop := 0 ≤ i.toInt ∧ i.toInt < n
theorem ixN_nI {k n : Nat} (h : k < n) (hn : n < 2 ^ 31) : ixN (nI k) n = True := by
  rw [ixN, nI_toInt (by omega)]
  simp
  omega
theorem ixN_iff {i : Int32} {n : Nat} (hn : n < 2 ^ 31) : ixN i n ↔ ∃ k, k < n ∧ i = nI k := by
  constructor
  · rintro ⟨h1, h2⟩
    obtain ⟨j, hj, rfl⟩ := nI_of (x := i) (by rw [Int32.lt_iff_toInt_lt]; simpa using h1)
    rw [nI_toInt hj] at h2
    exact ⟨j, by omega, rfl⟩
  · rintro ⟨k, hk, rfl⟩
    rw [ixN_nI hk hn]
    trivial
theorem zkl_i {a : Int32} : zkl (.int a) = .int a := rfl
theorem zkl_r {a : Nat} : zkl (.ref a) = .ref a := rfl
theorem zkl_n : zkl .null = .null := rfl
theorem zkl_l {a : Int64} : zkl (.long a) = .null := rfl
theorem zkl_z {v : Value} : zkl (zkl v) = zkl v := by cases v <;> rfl
theorem zcs_0 : zcs [] = 0 := rfl
theorem zcs_i {a : Int32} {st : List Value} : zcs (.int a :: st) = 1 + zcs st := rfl
theorem zcs_l {a : Int64} {st : List Value} : zcs (.long a :: st) = 2 + zcs st := rfl
theorem zcs_r {a : Nat} {st : List Value} : zcs (.ref a :: st) = 1 + zcs st := rfl
theorem zle8 : ((0 ≤ 8) = True) ∧ ((1 + 0 ≤ 8) = True) ∧ ((2 + 0 ≤ 8) = True) ∧ ((1 + (1 + 0) ≤ 8) = True) ∧ ((1 + (2 + 0) ≤ 8) = True) ∧ ((2 + (1 + 0) ≤ 8) = True) ∧ ((1 + (1 + (1 + 0)) ≤ 8) = True) ∧ ((2 + (2 + 0) ≤ 8) = True) ∧ ((1 + (1 + (1 + (1 + 0))) ≤ 8) = True) ∧ ((1 + (1 + (1 + (1 + (1 + 0)))) ≤ 8) = True) := by decide
theorem zr_s {α : Type} {I : Nat → Nat → α} {c : Nat} {f : Nat → α} : zr I c f c = f := by simp [zr]
theorem zr_n {α : Type} {I : Nat → Nat → α} {c k : Nat} {f : Nat → α} (h : k ≠ c) : zr I c f k = I k := by simp [zr, h]
theorem zr_zr {α : Type} {I : Nat → Nat → α} {c : Nat} {f g : Nat → α} : zr (zr I c f) c g = zr I c g := by
  funext k; by_cases h : k = c <;> simp [zr, h]
theorem zr_id {α : Type} {I : Nat → Nat → α} {c : Nat} : zr I c (I c) = I := by
  funext k; by_cases h : k = c <;> simp [zr, h]
theorem zr_c {α : Type} {I : Nat → Nat → α} {c d : Nat} {f g : Nat → α} (h : c ≠ d) : zr (zr I c f) d g = zr (zr I d g) c f := by
  funext k
  by_cases h1 : k = c
  · subst h1; simp [zr, h]
  · by_cases h2 : k = d
    · subst h2; simp [zr, h1]
    · simp [zr, h1, h2]
/-- a loop as a fold: d turns from k on -/
def fo {α : Type} (f : Nat → α → α) : Nat → Nat → α → α
  | 0, _, s => s
  | d + 1, k, s => fo f d (k + 1) (f k s)
theorem fo_loop {α : Type} {R : Nat → α → Prop} {E : α → Prop} {f : Nat → α → α} {n : Nat} (P : Nat → α → Prop) (hs : ∀ k s, k < n → P k s → R k s = R (k + 1) (f k s) ∧ P (k + 1) (f k s)) (he : ∀ s, P n s → R n s = E s) : ∀ (d k : Nat) (s : α), k + d = n → P k s → R k s = E (fo f d k s) ∧ P n (fo f d k s) := by
  intro d
  induction d with
  | zero => intro k s h hp; have h : k = n := h; subst h; exact ⟨he s hp, hp⟩
  | succ d ih =>
    intro k s h hp
    obtain ⟨h1, h2⟩ := hs k s (by omega) hp
    rw [h1]
    exact ih (k + 1) (f k s) (by omega) h2
theorem fo_loop0 {α : Type} {R : Nat → α → Prop} {E : α → Prop} {f : Nat → α → α} {n : Nat} (hs : ∀ k s, k < n → R k s = R (k + 1) (f k s)) (he : ∀ s, R n s = E s) (s : α) : R 0 s = E (fo f n 0 s) :=
  (fo_loop (fun _ _ => True) (fun k s h _ => ⟨hs k s h, trivial⟩) (fun s _ => he s) n 0 s (Nat.zero_add n) trivial).1
theorem fo_inv {α : Type} {f : Nat → α → α} {n : Nat} (P : Nat → α → Prop) (hs : ∀ k s, k < n → P k s → P (k + 1) (f k s)) : ∀ (d k : Nat) (s : α), k + d = n → P k s → P n (fo f d k s) := by
  intro d
  induction d with
  | zero => intro k s h hp; have h : k = n := h; subst h; exact hp
  | succ d ih => intro k s h hp; exact ih (k + 1) (f k s) (by omega) (hs k s (by omega) hp)
theorem fo_rel {α β : Type} {f : Nat → α → α} {g : Nat → β → β} {n : Nat} (P : Nat → α → β → Prop) (hs : ∀ k s t, k < n → P k s t → P (k + 1) (f k s) (g k t)) : ∀ (d k : Nat) (s : α) (t : β), k + d = n → P k s t → P n (fo f d k s) (fo g d k t) := by
  intro d
  induction d with
  | zero => intro k s t h hp; have h : k = n := h; subst h; exact hp
  | succ d ih => intro k s t h hp; exact ih (k + 1) (f k s) (g k t) (by omega) (hs k s t (by omega) hp)
theorem fo_congr {α : Type} {f g : Nat → α → α} {n : Nat} (h : ∀ k s, k < n → f k s = g k s) : ∀ (d k : Nat) (s : α), k + d = n → fo f d k s = fo g d k s :=
  fun d k s hd => fo_rel (fun _ a b => a = b) (fun k s t hk e => by subst e; exact h k s hk) d k s s hd rfl
/-- numbers: what the indices are -/
theorem nm_2 (k : Nat) : 2 * nI k = nI (2 * k) := pk_mul 2 k
theorem nm_3 (k : Nat) : 3 * nI k = nI (3 * k) := pk_mul 3 k
theorem nm_10 (k : Nat) : 10 * nI k = nI (10 * k) := pk_mul 10 k
theorem nm_24 (k : Nat) : 24 * nI k = nI (24 * k) := pk_mul 24 k
theorem nm_48 (k : Nat) : 48 * nI k = nI (48 * k) := pk_mul 48 k
theorem nm_60 (k : Nat) : 60 * nI k = nI (60 * k) := pk_mul 60 k
theorem nm_m24 (k : Nat) : nI k * 24 = nI (k * 24) := pk_mul k 24
theorem na_1 (k : Nat) : nI k + 1 = nI (k + 1) := nI_add k 1
theorem na_2 (k : Nat) : nI k + 2 = nI (k + 2) := nI_add k 2
theorem na_3 (k : Nat) : nI k + 3 = nI (k + 3) := nI_add k 3
theorem nl_48 (k : Nat) : 48 + nI k = nI (48 + k) := nI_add 48 k
theorem nl_96 (k : Nat) : 96 + nI k = nI (96 + k) := nI_add 96 k
theorem nl_1 (k : Nat) : 1 + nI k = nI (1 + k) := nI_add 1 k
/-! two ways that come together again -/
theorem ite_Rn {c : Prop} [Decidable c] {S : zSg} {y pc : Nat} {L L' st st' : List Value} {I I' : zI} {J J' : zJ} {Q : zQ} : (if c then Rn S y pc L st I J Q else Rn S y pc L' st' I' J' Q) = Rn S y pc (if c then L else L') (if c then st else st') (if c then I else I') (if c then J else J') Q := by
  by_cases h : c <;> simp only [h, if_true, if_false]
theorem ite_cons {c : Prop} [Decidable c] {α : Type} {a b : α} {l m : List α} : (if c then a :: l else b :: m) = (if c then a else b) :: (if c then l else m) := by
  by_cases h : c <;> simp only [h, if_true, if_false]
theorem ite_vi {c : Prop} [Decidable c] {a b : Int32} : (if c then Value.int a else Value.int b) = .int (if c then a else b) := by
  by_cases h : c <;> simp only [h, if_true, if_false]
theorem ite_vl {c : Prop} [Decidable c] {a b : Int64} : (if c then Value.long a else Value.long b) = .long (if c then a else b) := by
  by_cases h : c <;> simp only [h, if_true, if_false]
theorem ite_zr {c : Prop} [Decidable c] {α : Type} {I : Nat → Nat → α} {q : Nat} {f g : Nat → α} : (if c then zr I q f else zr I q g) = zr I q (if c then f else g) := by
  by_cases h : c <;> simp only [h, if_true, if_false]
theorem ite_zr1 {c : Prop} [Decidable c] {α : Type} {I : Nat → Nat → α} {q : Nat} {f : Nat → α} : (if c then zr I q f else I) = zr I q (if c then f else I q) := by
  by_cases h : c <;> simp only [h, if_true, if_false, zr_id]
theorem ite_zr2 {c : Prop} [Decidable c] {α : Type} {I : Nat → Nat → α} {q : Nat} {f : Nat → α} : (if c then I else zr I q f) = zr I q (if c then I q else f) := by
  by_cases h : c <;> simp only [h, if_true, if_false, zr_id]
theorem upd_id {f : Nat → Int32} {k : Nat} : upd f k (f k) = f := by
  funext j; by_cases h : j = k <;> simp [upd, h]
theorem ite_upd {c : Prop} [Decidable c] {f : Nat → Int32} {k : Nat} {x y : Int32} : (if c then upd f k x else upd f k y) = upd f k (if c then x else y) := by
  by_cases h : c <;> simp only [h, if_true, if_false]
theorem ite_upd1 {c : Prop} [Decidable c] {f : Nat → Int32} {k : Nat} {x : Int32} : (if c then upd f k x else f) = upd f k (if c then x else f k) := by
  by_cases h : c
  · simp only [h, if_true]
  · simp only [h, if_false]; exact upd_id.symm
theorem ite_upd2 {c : Prop} [Decidable c] {f : Nat → Int32} {k : Nat} {x : Int32} : (if c then f else upd f k x) = upd f k (if c then f k else x) := by
  by_cases h : c
  · simp only [h, if_true]; exact upd_id.symm
  · simp only [h, if_false]
theorem ite_10 {c : Prop} [Decidable c] : ((if c then (1 : Int32) else 0) = 0) = ¬ c := by by_cases h : c <;> simp [h]
theorem ite_01 {c : Prop} [Decidable c] : ((if c then (0 : Int32) else 1) = 0) = c := by by_cases h : c <;> simp [h]
theorem ite_b1 {c : Prop} [Decidable c] : ((if c then (1 : Int32) else 0) = 0 ∨ (if c then (1 : Int32) else 0) = 1) = True := by by_cases h : c <;> simp [h]
theorem ite_n {c : Prop} [Decidable c] {A B : Prop} : (if ¬ c then A else B) = if c then B else A := by by_cases h : c <;> simp [h]
theorem b1_0 : ((0 : Int32) = 0 ∨ (0 : Int32) = 1) = True := by simp
theorem b1_1 : ((1 : Int32) = 0 ∨ (1 : Int32) = 1) = True := by simp
theorem i1_0 : ((1 : Int32) = 0) = False := by decide
theorem i0_0 : ((0 : Int32) = 0) = True := by decide
theorem upd_s {f : Nat → Int32} {k : Nat} {x : Int32} : upd f k x k = x := by simp [upd]
theorem upd_n {f : Nat → Int32} {k j : Nat} {x : Int32} (h : j ≠ k) : upd f k x j = f j := by simp [upd, h]
theorem upd_upd {f : Nat → Int32} {k : Nat} {x y : Int32} : upd (upd f k x) k y = upd f k y := by
  funext j; by_cases h : j = k <;> simp [upd, h]
theorem ixN_tn {i : Int32} {n : Nat} (h : ixN i n) (hn : n < 2 ^ 31) : tn i < n := by
  obtain ⟨k, hk, rfl⟩ := (ixN_iff hn).mp h
  rw [tn, nI_clamp (by omega)]
  exact hk
theorem ite_QQ (Q : zQ) {c : Prop} [Decidable c] {v v' : Option Value} {I I' : zI} {J J' : zJ} : (if c then Q v I J else Q v' I' J') = Q (if c then v else v') (if c then I else I') (if c then J else J') := by
  by_cases h : c <;> simp only [h, if_true, if_false]
theorem ite_sm {c : Prop} [Decidable c] {α : Type} {a b : α} : (if c then some a else some b) = some (if c then a else b) := by
  by_cases h : c <;> simp only [h, if_true, if_false]
section
variable {xl : Nat} {i : Int32}
theorem br_1 : zar (zG xl) 1 i = ixN i 3 := by rw [ixN, ar_1]; rfl
theorem bi_3 : zai (zG xl) 3 i = ixN i 29 := by rw [ixN, ai_3]; rfl
theorem bs_3 : zas (zG xl) 3 i = ixN i 29 := by rw [ixN, as_3]; rfl
theorem bi_5 : zai (zG xl) 5 i = ixN i 17 := by rw [ixN, ai_5]; rfl
theorem bs_5 : zas (zG xl) 5 i = ixN i 17 := by rw [ixN, as_5]; rfl
theorem bi_7 : zai (zG xl) 7 i = ixN i 47 := by rw [ixN, ai_7]; rfl
theorem bs_7 : zas (zG xl) 7 i = ixN i 47 := by rw [ixN, as_7]; rfl
theorem bi_9 : zai (zG xl) 9 i = ixN i 10 := by rw [ixN, ai_9]; rfl
theorem bs_9 : zas (zG xl) 9 i = ixN i 10 := by rw [ixN, as_9]; rfl
theorem bi_10 : zai (zG xl) 10 i = ixN i 10 := by rw [ixN, ai_10]; rfl
theorem bs_10 : zas (zG xl) 10 i = ixN i 10 := by rw [ixN, as_10]; rfl
theorem bi_11 : zai (zG xl) 11 i = ixN i 6 := by rw [ixN, ai_11]; rfl
theorem bs_11 : zas (zG xl) 11 i = ixN i 6 := by rw [ixN, as_11]; rfl
theorem bi_12 : zai (zG xl) 12 i = ixN i 6 := by rw [ixN, ai_12]; rfl
theorem bs_12 : zas (zG xl) 12 i = ixN i 6 := by rw [ixN, as_12]; rfl
theorem bi_13 : zai (zG xl) 13 i = ixN i 17 := by rw [ixN, ai_13]; rfl
theorem bs_13 : zas (zG xl) 13 i = ixN i 17 := by rw [ixN, as_13]; rfl
theorem bi_14 : zai (zG xl) 14 i = ixN i 17 := by rw [ixN, ai_14]; rfl
theorem bs_14 : zas (zG xl) 14 i = ixN i 17 := by rw [ixN, as_14]; rfl
theorem bi_15 : zai (zG xl) 15 i = ixN i 8 := by rw [ixN, ai_15]; rfl
theorem bs_15 : zas (zG xl) 15 i = ixN i 8 := by rw [ixN, as_15]; rfl
theorem bi_16 : zai (zG xl) 16 i = ixN i 8 := by rw [ixN, ai_16]; rfl
theorem bs_16 : zas (zG xl) 16 i = ixN i 8 := by rw [ixN, as_16]; rfl
theorem bi_17 : zai (zG xl) 17 i = ixN i 8 := by rw [ixN, ai_17]; rfl
theorem bs_17 : zas (zG xl) 17 i = ixN i 8 := by rw [ixN, as_17]; rfl
theorem bi_19 : zai (zG xl) 19 i = ixN i 10 := by rw [ixN, ai_19]; rfl
theorem bs_19 : zas (zG xl) 19 i = ixN i 10 := by rw [ixN, as_19]; rfl
theorem bi_20 : zai (zG xl) 20 i = ixN i 10 := by rw [ixN, ai_20]; rfl
theorem bs_20 : zas (zG xl) 20 i = ixN i 10 := by rw [ixN, as_20]; rfl
theorem bi_21 : zai (zG xl) 21 i = ixN i 10 := by rw [ixN, ai_21]; rfl
theorem bs_21 : zas (zG xl) 21 i = ixN i 10 := by rw [ixN, as_21]; rfl
theorem bi_22 : zai (zG xl) 22 i = ixN i 6 := by rw [ixN, ai_22]; rfl
theorem bs_22 : zas (zG xl) 22 i = ixN i 6 := by rw [ixN, as_22]; rfl
theorem bi_23 : zai (zG xl) 23 i = ixN i 6 := by rw [ixN, ai_23]; rfl
theorem bs_23 : zas (zG xl) 23 i = ixN i 6 := by rw [ixN, as_23]; rfl
theorem bi_24 : zai (zG xl) 24 i = ixN i 6 := by rw [ixN, ai_24]; rfl
theorem bs_24 : zas (zG xl) 24 i = ixN i 6 := by rw [ixN, as_24]; rfl
theorem bi_25 : zai (zG xl) 25 i = ixN i 6 := by rw [ixN, ai_25]; rfl
theorem bs_25 : zas (zG xl) 25 i = ixN i 6 := by rw [ixN, as_25]; rfl
theorem bi_26 : zai (zG xl) 26 i = ixN i 17 := by rw [ixN, ai_26]; rfl
theorem bs_26 : zas (zG xl) 26 i = ixN i 17 := by rw [ixN, as_26]; rfl
theorem bi_27 : zai (zG xl) 27 i = ixN i 17 := by rw [ixN, ai_27]; rfl
theorem bs_27 : zas (zG xl) 27 i = ixN i 17 := by rw [ixN, as_27]; rfl
theorem bi_29 : zai (zG xl) 29 i = ixN i 10 := by rw [ixN, ai_29]; rfl
theorem bs_29 : zas (zG xl) 29 i = ixN i 10 := by rw [ixN, as_29]; rfl
theorem bi_30 : zai (zG xl) 30 i = ixN i 10 := by rw [ixN, ai_30]; rfl
theorem bs_30 : zas (zG xl) 30 i = ixN i 10 := by rw [ixN, as_30]; rfl
theorem bi_31 : zai (zG xl) 31 i = ixN i 6 := by rw [ixN, ai_31]; rfl
theorem bs_31 : zas (zG xl) 31 i = ixN i 6 := by rw [ixN, as_31]; rfl
theorem bi_32 : zai (zG xl) 32 i = ixN i 6 := by rw [ixN, ai_32]; rfl
theorem bs_32 : zas (zG xl) 32 i = ixN i 6 := by rw [ixN, as_32]; rfl
theorem bi_33 : zai (zG xl) 33 i = ixN i 17 := by rw [ixN, ai_33]; rfl
theorem bs_33 : zas (zG xl) 33 i = ixN i 17 := by rw [ixN, as_33]; rfl
theorem bi_34 : zai (zG xl) 34 i = ixN i 17 := by rw [ixN, ai_34]; rfl
theorem bs_34 : zas (zG xl) 34 i = ixN i 17 := by rw [ixN, as_34]; rfl
theorem bi_35 : zai (zG xl) 35 i = ixN i 8 := by rw [ixN, ai_35]; rfl
theorem bs_35 : zas (zG xl) 35 i = ixN i 8 := by rw [ixN, as_35]; rfl
theorem bi_36 : zai (zG xl) 36 i = ixN i 8 := by rw [ixN, ai_36]; rfl
theorem bs_36 : zas (zG xl) 36 i = ixN i 8 := by rw [ixN, as_36]; rfl
theorem bi_37 : zai (zG xl) 37 i = ixN i 8 := by rw [ixN, ai_37]; rfl
theorem bs_37 : zas (zG xl) 37 i = ixN i 8 := by rw [ixN, as_37]; rfl
theorem bi_39 : zai (zG xl) 39 i = ixN i 10 := by rw [ixN, ai_39]; rfl
theorem bs_39 : zas (zG xl) 39 i = ixN i 10 := by rw [ixN, as_39]; rfl
theorem bi_40 : zai (zG xl) 40 i = ixN i 10 := by rw [ixN, ai_40]; rfl
theorem bs_40 : zas (zG xl) 40 i = ixN i 10 := by rw [ixN, as_40]; rfl
theorem bi_41 : zai (zG xl) 41 i = ixN i 10 := by rw [ixN, ai_41]; rfl
theorem bs_41 : zas (zG xl) 41 i = ixN i 10 := by rw [ixN, as_41]; rfl
theorem bi_42 : zai (zG xl) 42 i = ixN i 6 := by rw [ixN, ai_42]; rfl
theorem bs_42 : zas (zG xl) 42 i = ixN i 6 := by rw [ixN, as_42]; rfl
theorem bi_43 : zai (zG xl) 43 i = ixN i 6 := by rw [ixN, ai_43]; rfl
theorem bs_43 : zas (zG xl) 43 i = ixN i 6 := by rw [ixN, as_43]; rfl
theorem bi_44 : zai (zG xl) 44 i = ixN i 6 := by rw [ixN, ai_44]; rfl
theorem bs_44 : zas (zG xl) 44 i = ixN i 6 := by rw [ixN, as_44]; rfl
theorem bi_45 : zai (zG xl) 45 i = ixN i 6 := by rw [ixN, ai_45]; rfl
theorem bs_45 : zas (zG xl) 45 i = ixN i 6 := by rw [ixN, as_45]; rfl
theorem bi_46 : zai (zG xl) 46 i = ixN i 17 := by rw [ixN, ai_46]; rfl
theorem bs_46 : zas (zG xl) 46 i = ixN i 17 := by rw [ixN, as_46]; rfl
theorem bi_47 : zai (zG xl) 47 i = ixN i 17 := by rw [ixN, ai_47]; rfl
theorem bs_47 : zas (zG xl) 47 i = ixN i 17 := by rw [ixN, as_47]; rfl
theorem bi_49 : zai (zG xl) 49 i = ixN i 8 := by rw [ixN, ai_49]; rfl
theorem bs_49 : zas (zG xl) 49 i = ixN i 8 := by rw [ixN, as_49]; rfl
theorem bi_50 : zai (zG xl) 50 i = ixN i 8 := by rw [ixN, ai_50]; rfl
theorem bs_50 : zas (zG xl) 50 i = ixN i 8 := by rw [ixN, as_50]; rfl
theorem bi_51 : zai (zG xl) 51 i = ixN i 8 := by rw [ixN, ai_51]; rfl
theorem bs_51 : zas (zG xl) 51 i = ixN i 8 := by rw [ixN, as_51]; rfl
theorem br_52 : zar (zG xl) 52 i = ixN i 4 := by rw [ixN, ar_52]; rfl
theorem bi_54 : zai (zG xl) 54 i = ixN i 60 := by rw [ixN, ai_54]; rfl
theorem bs_54 : zas (zG xl) 54 i = ixN i 60 := by rw [ixN, as_54]; rfl
theorem bi_56 : zai (zG xl) 56 i = ixN i 60 := by rw [ixN, ai_56]; rfl
theorem bs_56 : zas (zG xl) 56 i = ixN i 60 := by rw [ixN, as_56]; rfl
theorem bi_58 : zai (zG xl) 58 i = ixN i 60 := by rw [ixN, ai_58]; rfl
theorem bs_58 : zas (zG xl) 58 i = ixN i 60 := by rw [ixN, as_58]; rfl
theorem bi_60 : zai (zG xl) 60 i = ixN i 60 := by rw [ixN, ai_60]; rfl
theorem bs_60 : zas (zG xl) 60 i = ixN i 60 := by rw [ixN, as_60]; rfl
theorem bi_61 : zai (zG xl) 61 i = ixN i 3 := by rw [ixN, ai_61]; rfl
theorem bs_61 : zas (zG xl) 61 i = ixN i 3 := by rw [ixN, as_61]; rfl
theorem bi_62 : zai (zG xl) 62 i = ixN i 3 := by rw [ixN, ai_62]; rfl
theorem bs_62 : zas (zG xl) 62 i = ixN i 3 := by rw [ixN, as_62]; rfl
theorem bi_63 : zai (zG xl) 63 i = ixN i 240 := by rw [ixN, ai_63]; rfl
theorem bs_63 : zas (zG xl) 63 i = ixN i 240 := by rw [ixN, as_63]; rfl
theorem bj_64 : zaj (zG xl) 64 i = ixN i 10 := by rw [ixN, aj_64]; rfl
theorem bi_66 : zai (zG xl) 66 i = ixN i 4 := by rw [ixN, ai_66]; rfl
theorem bs_66 : zas (zG xl) 66 i = ixN i 4 := by rw [ixN, as_66]; rfl
theorem bi_67 : zai (zG xl) 67 i = ixN i 4 := by rw [ixN, ai_67]; rfl
theorem bs_67 : zas (zG xl) 67 i = ixN i 4 := by rw [ixN, as_67]; rfl
theorem bi_68 : zai (zG xl) 68 i = ixN i 240 := by rw [ixN, ai_68]; rfl
theorem bs_68 : zas (zG xl) 68 i = ixN i 240 := by rw [ixN, as_68]; rfl
theorem bi_69 : zai (zG xl) 69 i = ixN i 60 := by rw [ixN, ai_69]; rfl
theorem bs_69 : zas (zG xl) 69 i = ixN i 60 := by rw [ixN, as_69]; rfl
theorem bi_70 : zai (zG xl) 70 i = ixN i 144 := by rw [ixN, ai_70]; rfl
theorem bs_70 : zas (zG xl) 70 i = ixN i 144 := by rw [ixN, as_70]; rfl
theorem bi_71 : zai (zG xl) 71 i = ixN i 3 := by rw [ixN, ai_71]; rfl
theorem bs_71 : zas (zG xl) 71 i = ixN i 3 := by rw [ixN, as_71]; rfl
theorem bi_72 : zai (zG xl) 72 i = ixN i 20 := by rw [ixN, ai_72]; rfl
theorem bs_72 : zas (zG xl) 72 i = ixN i 20 := by rw [ixN, as_72]; rfl
theorem bi_73 : zai (zG xl) 73 i = ixN i 12 := by rw [ixN, ai_73]; rfl
theorem bs_73 : zas (zG xl) 73 i = ixN i 12 := by rw [ixN, as_73]; rfl
theorem bi_74 : zai (zG xl) 74 i = ixN i 34 := by rw [ixN, ai_74]; rfl
theorem bs_74 : zas (zG xl) 74 i = ixN i 34 := by rw [ixN, as_74]; rfl
theorem bi_75 : zai (zG xl) 75 i = ixN i 24 := by rw [ixN, ai_75]; rfl
theorem bs_75 : zas (zG xl) 75 i = ixN i 24 := by rw [ixN, as_75]; rfl
theorem bi_76 : zai (zG xl) 76 i = ixN i 17 := by rw [ixN, ai_76]; rfl
theorem bs_76 : zas (zG xl) 76 i = ixN i 17 := by rw [ixN, as_76]; rfl
theorem bb_77 : zab (zG xl) 77 i = ixN i 17 := by rw [ixN, ab_77]; rfl
theorem bc_77 : zac (zG xl) 77 i = ixN i 17 := by rw [ixN, ac_77]; rfl
theorem bi_78 : zai (zG xl) 78 i = ixN i 6 := by rw [ixN, ai_78]; rfl
theorem bs_78 : zas (zG xl) 78 i = ixN i 6 := by rw [ixN, as_78]; rfl
theorem bi_79 : zai (zG xl) 79 i = ixN i 6 := by rw [ixN, ai_79]; rfl
theorem bs_79 : zas (zG xl) 79 i = ixN i 6 := by rw [ixN, as_79]; rfl
theorem bi_80 : zai (zG xl) 80 i = ixN i 6 := by rw [ixN, ai_80]; rfl
theorem bs_80 : zas (zG xl) 80 i = ixN i 6 := by rw [ixN, as_80]; rfl
theorem bi_81 : zai (zG xl) 81 i = ixN i 6 := by rw [ixN, ai_81]; rfl
theorem bs_81 : zas (zG xl) 81 i = ixN i 6 := by rw [ixN, as_81]; rfl
theorem bi_82 : zai (zG xl) 82 i = ixN i 6 := by rw [ixN, ai_82]; rfl
theorem bs_82 : zas (zG xl) 82 i = ixN i 6 := by rw [ixN, as_82]; rfl
theorem bb_83 : zab (zG xl) 83 i = ixN i 6 := by rw [ixN, ab_83]; rfl
theorem bc_83 : zac (zG xl) 83 i = ixN i 6 := by rw [ixN, ac_83]; rfl
theorem bi_84 : zai (zG xl) 84 i = ixN i 10 := by rw [ixN, ai_84]; rfl
theorem bs_84 : zas (zG xl) 84 i = ixN i 10 := by rw [ixN, as_84]; rfl
theorem bi_85 : zai (zG xl) 85 i = ixN i 10 := by rw [ixN, ai_85]; rfl
theorem bs_85 : zas (zG xl) 85 i = ixN i 10 := by rw [ixN, as_85]; rfl
theorem bi_86 : zai (zG xl) 86 i = ixN i 10 := by rw [ixN, ai_86]; rfl
theorem bs_86 : zas (zG xl) 86 i = ixN i 10 := by rw [ixN, as_86]; rfl
theorem bi_87 : zai (zG xl) 87 i = ixN i 24 := by rw [ixN, ai_87]; rfl
theorem bs_87 : zas (zG xl) 87 i = ixN i 24 := by rw [ixN, as_87]; rfl
theorem bi_88 : zai (zG xl) 88 i = ixN i 240 := by rw [ixN, ai_88]; rfl
theorem bs_88 : zas (zG xl) 88 i = ixN i 240 := by rw [ixN, as_88]; rfl
theorem bb_1011 : zab (zG xl) 1011 i = ixN i 3 := by rw [ixN, ab_1011]; rfl
theorem bb_1012 : zab (zG xl) 1012 i = ixN i 3 := by rw [ixN, ab_1012]; rfl
theorem bb_1013 : zab (zG xl) 1013 i = ixN i 6 := by rw [ixN, ab_1013]; rfl
theorem bi_1000 : zai (zG xl) 1000 i = ixN i 3 := by rw [ixN, ai_1000]; rfl
theorem bi_1004 : zai (zG xl) 1004 i = ixN i xl := by rw [ixN, ai_1004]
end

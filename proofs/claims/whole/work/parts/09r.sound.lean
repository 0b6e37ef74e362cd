/-! ===== the small machine is true over the big one: steps ===== -/
def mv (ad : Nat → Nat) (v : Value) : Value := match v with
  | .ref k => .ref (ad k)
  | w => w
def mfo (ad : Nat → Nat) (f : Nat → Int32) (k : Nat) (o : Option Nat) : Value := match o with
  | none => .int (f k)
  | some q => .ref (ad q)
def mfs (ad : Nat → Nat) (f : Nat → Int32) (fs : List (Option Nat)) : List Value := fs.mapIdx (fun k o => mfo ad f k o)
def mcl (ad : Nat → Nat) (ac : Nat → ClassId) (f : Nat → Int32) (g : Nat → Int64) (s : zSp) : va_E := match s with
  | .inl (ci, fs) => .inr (ci, mfs ad f fs)
  | .inr (.inl (k, n)) => if k = 1 then .inl (ac 1, n, .inr (.inl g)) else .inl (ac k, n, .inl f)
  | .inr (.inr (k, l)) => .inl (ac k, l.length, .inr (.inr (.inr (.inr (fun j => (l[j]?).map ad)))))
def mw (S : zSg) (ad : Nat → Nat) (ac : Nat → ClassId) (I : zI) (J : zJ) : va_W := S.1.mapIdx (fun c s => (ad c, mcl ad ac (I c) (J c) s))
def ztys (ac : Nat → ClassId) : List (ClassId × FieldType) := [(ac 0, .int), (ac 1, .long), (ac 2, .boolean), (ac 3, .object "ProofDay$Text"), (ac 4, .object "ProofDay$Sheet")]
def zA (S : zSg) (ad : Nat → Nat) : Nat → Prop := fun q => ∃ c, c < S.1.length ∧ q = ad c
def zWs (s : zSp) : Prop := match s with
  | .inl (ci, fs) => ci < 7 ∧ fs.length = zNc ci
  | .inr (.inl (k, _)) => k ≤ 2
  | .inr (.inr (k, l)) => (k = 3 ∨ k = 4) ∧ l.length < 1000
def zWf (S : zSg) : Prop := S.1.length ≤ 1000 ∧ ∀ (c : Nat) (s : zSp), S.1[c]? = some s → zWs s
theorem mw_at {S : zSg} {ad : Nat → Nat} {ac : Nat → ClassId} {I : zI} {J : zJ} {a : Nat} {s : zSp} (h : S.1[a]? = some s) : (mw S ad ac I J)[a]? = some (ad a, mcl ad ac (I a) (J a) s) := by
  simp [mw, List.getElem?_mapIdx, h]
theorem mw_set {S : zSg} {ad : Nat → Nat} {ac : Nat → ClassId} {I I' : zI} {J J' : zJ} {a : Nat} {s : zSp} {e : va_E} (h : S.1[a]? = some s) (hI : ∀ c, c ≠ a → I' c = I c) (hJ : ∀ c, c ≠ a → J' c = J c) (he : mcl ad ac (I' a) (J' a) s = e) : (mw S ad ac I J).set a (ad a, e) = mw S ad ac I' J' := by
  apply List.ext_getElem?
  intro i
  rw [List.getElem?_set]
  have hlt : a < S.1.length := (List.getElem?_eq_some_iff.mp h).1
  by_cases hi : a = i
  · subst hi
    rw [if_pos rfl, if_pos (by simpa [mw] using hlt), mw_at h, he]
  · rw [if_neg hi]
    simp only [mw, List.getElem?_mapIdx]
    rw [hI i (fun x => hi x.symm), hJ i (fun x => hi x.symm)]
theorem mfs_at {ad : Nat → Nat} {f : Nat → Int32} {fs : List (Option Nat)} {k : Nat} {o : Option Nat} (h : fs[k]? = some o) : (mfs ad f fs)[k]? = some (mfo ad f k o) := by
  simp [mfs, List.getElem?_mapIdx, h]
theorem mfs_set {ad : Nat → Nat} {f : Nat → Int32} {fs : List (Option Nat)} {k : Nat} {x : Int32} (h : fs[k]? = some none) : (mfs ad f fs).set k (.int x) = mfs ad (upd f k x) fs := by
  apply List.ext_getElem?
  intro i
  rw [List.getElem?_set]
  have hlt : k < fs.length := (List.getElem?_eq_some_iff.mp h).1
  by_cases hi : k = i
  · subst hi
    rw [if_pos rfl, if_pos (by simpa [mfs] using hlt), mfs_at h]
    simp [mfo, upd]
  · rw [if_neg hi]
    simp only [mfs, List.getElem?_mapIdx]
    cases fs[i]? with
    | none => rfl
    | some o =>
      cases o with
      | none => simp [mfo, upd_n (fun x : i = k => hi x.symm)]
      | some q => rfl
theorem mv_cat {ad : Nat → Nat} {v : Value} : (mv ad v).category = v.category := by cases v <;> rfl
/-! locals -/
def zH (ad : Nat → Nat) (ls : Array Slot) (n : Nat) (L : List Value) : Prop := ls.size = n ∧ lv_wf ls ∧ L.length = n ∧ ∀ (k : Nat) (v : Value), L[k]? = some v → v ≠ .null → ls[k]? = some (.val (mv ad v))
def lvo (ad : Nat → Nat) (k : Nat) (v : Option Value) : Option (Nat × Value) := match v with
  | some .null => none
  | some v => some (k, mv ad v)
  | none => none
def lvO (ad : Nat → Nat) (L : List Value) : List (Nat × Value) := (List.range L.length).filterMap (fun k => lvo ad k L[k]?)
theorem lvO_mem {ad : Nat → Nat} {L : List Value} {k : Nat} {v : Value} (h : L[k]? = some v) (hv : v ≠ .null) : (k, mv ad v) ∈ lvO ad L := by
  unfold lvO
  rw [List.mem_filterMap]
  refine ⟨k, List.mem_range.mpr (List.getElem?_eq_some_iff.mp h).1, ?_⟩
  rw [h]
  cases v <;> first | rfl | exact absurd rfl hv
theorem lvO_of {ad : Nat → Nat} {L : List Value} {q : Nat × Value} (h : q ∈ lvO ad L) : ∃ v, L[q.1]? = some v ∧ v ≠ .null ∧ q.2 = mv ad v := by
  unfold lvO at h
  rw [List.mem_filterMap] at h
  obtain ⟨k, hk, h⟩ := h
  cases hL : L[k]? with
  | none => rw [hL] at h; cases h
  | some v =>
    rw [hL] at h
    cases v <;> first | (cases h; exact ⟨_, hL, by simp, rfl⟩) | (cases h)
theorem zH_has {ad : Nat → Nat} {ls : Array Slot} {n : Nat} {L : List Value} (h : zH ad ls n L) : lv_has ls n (lvO ad L) := by
  refine ⟨h.1, h.2.1, fun q hq => ?_⟩
  obtain ⟨v, h1, h2, h3⟩ := lvO_of hq
  rw [h3]
  exact h.2.2.2 _ _ h1 h2
theorem zpL_at {L : List Value} {i j : Nat} {x v : Value} (hi : i < L.length) (h : (zpL L i x)[j]? = some v) : (j = i ∧ v = x) ∨ (j ≠ i ∧ j + 1 = i ∧ ∃ u, L[j]? = some u ∧ v = zkl u) ∨ (j ≠ i ∧ j + 1 ≠ i ∧ L[j]? = some v) := by
  cases i with
  | zero =>
    rw [zpL, List.getElem?_set] at h
    by_cases hj : 0 = j
    · subst hj
      rw [if_pos rfl, if_pos hi] at h
      exact Or.inl ⟨rfl, (Option.some.inj h).symm⟩
    · rw [if_neg hj] at h
      exact Or.inr (Or.inr ⟨fun e => hj e.symm, by omega, h⟩)
  | succ k =>
    rw [zpL, List.getElem?_modify, List.getElem?_set] at h
    by_cases hj : j = k + 1
    · subst hj
      rw [if_pos rfl, if_pos hi] at h
      simp at h
      exact Or.inl ⟨rfl, h.symm⟩
    · rw [if_neg (fun e => hj e.symm)] at h
      by_cases hk : k = j
      · subst hk
        cases hL : L[k]? with
        | none => rw [hL] at h; simp at h
        | some u =>
          rw [hL] at h
          simp at h
          exact Or.inr (Or.inl ⟨hj, rfl, u, rfl, h.symm⟩)
      · refine Or.inr (Or.inr ⟨hj, by omega, ?_⟩)
        simpa [hk] using h
theorem zkl_nn {u : Value} (h : zkl u ≠ .null) : zkl u = u ∧ u ≠ .null ∧ u.category = 1 := by
  cases u <;> simp [zkl, Value.category] at h ⊢
theorem zH_st1 {ad : Nat → Nat} {ls ls' : Array Slot} {n i : Nat} {L : List Value} {x : Value} (h : zH ad ls n L) (hi : i < n) (h' : lv_has ls' n ((i, mv ad x) :: (lvO ad L).filter (fun q => !(q.1 == i) && !(q.1 + 1 == i && q.2.category == 2)))) : zH ad ls' n (zpL L i x) := by
  have hl := h.2.2.1
  refine ⟨h'.1, h'.2.1, ?_, fun k v hk hv => ?_⟩
  · cases i <;> simp [zpL, hl]
  · rcases zpL_at (by rw [hl]; exact hi) hk with ⟨rfl, rfl⟩ | ⟨h1, h2, u, h3, rfl⟩ | ⟨h1, h2, h3⟩
    · exact h'.2.2 _ List.mem_cons_self
    · obtain ⟨e1, e2, e3⟩ := zkl_nn hv
      rw [e1]
      refine h'.2.2 (k, mv ad u) (List.mem_cons_of_mem _ (List.mem_filter.mpr ⟨lvO_mem h3 e2, ?_⟩))
      simp [h1, mv_cat, e3]
    · refine h'.2.2 (k, mv ad v) (List.mem_cons_of_mem _ (List.mem_filter.mpr ⟨lvO_mem h3 hv, ?_⟩))
      simp [h1, h2]
theorem zH_st2 {ad : Nat → Nat} {ls ls' : Array Slot} {n i : Nat} {L : List Value} {x : Value} (h : zH ad ls n L) (hi : i + 1 < n) (h' : lv_has ls' n ((i, mv ad x) :: (lvO ad L).filter (fun q => !(q.1 == i) && (!(q.1 == i + 1) && !(q.1 + 1 == i && q.2.category == 2))))) : zH ad ls' n (zpL2 L i x) := by
  have hl := h.2.2.1
  refine ⟨h'.1, h'.2.1, ?_, fun k v hk hv => ?_⟩
  · cases i <;> simp [zpL2, zpL, hl]
  · rw [zpL2, List.getElem?_set] at hk
    by_cases hki : i + 1 = k
    · subst hki
      rw [if_pos rfl] at hk
      split at hk
      · exact absurd (Option.some.inj hk).symm hv
      · cases hk
    · rw [if_neg hki] at hk
      rcases zpL_at (by rw [hl]; omega) hk with ⟨rfl, rfl⟩ | ⟨h1, h2, u, h3, rfl⟩ | ⟨h1, h2, h3⟩
      · exact h'.2.2 _ List.mem_cons_self
      · obtain ⟨e1, e2, e3⟩ := zkl_nn hv
        rw [e1]
        refine h'.2.2 (k, mv ad u) (List.mem_cons_of_mem _ (List.mem_filter.mpr ⟨lvO_mem h3 e2, ?_⟩))
        simp [h1, mv_cat, e3]
        omega
      · refine h'.2.2 (k, mv ad v) (List.mem_cons_of_mem _ (List.mem_filter.mpr ⟨lvO_mem h3 hv, ?_⟩))
        simp [h1, h2]
        omega

/-! ===== the small machine is true over the big one: calls, ends, whole runs ===== -/
theorem zfl_len {ad : Nat → Nat} : ∀ (as : List Value), (lg_sl (as.map (mv ad))).length = (zfl as).length := by
  intro as
  induction as with
  | nil => rfl
  | cons v t ih =>
    have hc : lg_sl ((v :: t).map (mv ad)) = (if (mv ad v).category = 2 then [.val (mv ad v), .second] else [.val (mv ad v)]) ++ lg_sl (t.map (mv ad)) := by simp [lg_sl]
    rw [hc, List.length_append, ih]
    cases v <;> simp [mv, Value.category, zfl] <;> omega
theorem zfl_args {ad : Nat → Nat} : ∀ (as : List Value) (i k : Nat) (v : Value), (zfl as)[k]? = some v → v ≠ .null → (i + k, mv ad v) ∈ lv_args i (as.map (mv ad)) := by
  intro as
  induction as with
  | nil => intro i k v h; simp [zfl] at h
  | cons u t ih =>
    intro i k v h hv
    have two : ∀ (u0 : Value), u0.category = 2 → (u0 :: .null :: zfl t)[k]? = some v → (i + k, mv ad v) ∈ (i, mv ad u0) :: lv_args (i + 2) (t.map (mv ad)) := by
      intro u0 hc h
      match k, h with
      | 0, h => cases h; exact List.mem_cons_self
      | 1, h => cases h; exact absurd rfl hv
      | k + 2, h =>
        have h : (zfl t)[k]? = some v := h
        have := ih (i + 2) k v h hv
        rw [show i + (k + 2) = i + 2 + k by omega]
        exact List.mem_cons_of_mem _ this
    have one : ∀ (u0 : Value), (u0 :: zfl t)[k]? = some v → (i + k, mv ad v) ∈ (i, mv ad u0) :: lv_args (i + 1) (t.map (mv ad)) := by
      intro u0 h
      match k, h with
      | 0, h => cases h; exact List.mem_cons_self
      | k + 1, h =>
        have h : (zfl t)[k]? = some v := h
        have := ih (i + 1) k v h hv
        rw [show i + (k + 1) = i + 1 + k by omega]
        exact List.mem_cons_of_mem _ this
    cases u with
    | long x => exact two (.long x) rfl h
    | double x => exact two (.double x) rfl h
    | int x => exact one (.int x) h
    | float x => exact one (.float x) h
    | null => exact one .null h
    | ref x => exact one (.ref x) h
    | retAddr x => exact one (.retAddr x) h
theorem zH_ent {ad : Nat → Nat} {as : List Value} {n : Nat} (h : (zfl as).length ≤ n) : zH ad ((lg_sl (as.map (mv ad)) ++ List.replicate (n - (lg_sl (as.map (mv ad))).length) Slot.unset).toArray) n (zent n as) := by
  have he := lv_entry (as.map (mv ad)) (n := n) (by rw [zfl_len]; exact h)
  refine ⟨he.1, he.2.1, by simp [zent]; omega, fun k v hk hv => ?_⟩
  rw [zent, List.getElem?_append] at hk
  split at hk
  · have := zfl_args (ad := ad) as 0 k v hk hv
    rw [Nat.zero_add] at this
    exact he.2.2 _ this
  · rw [List.getElem?_replicate] at hk
    split at hk
    · exact absurd (Option.some.inj hk).symm hv
    · cases hk
theorem mw_D {S : zSg} {ad : Nat → Nat} {ac : Nat → ClassId} {I I' : zI} {J J' : zJ} {A : Nat → Prop} (h : va_D A (mw S ad ac I J)) : va_D A (mw S ad ac I' J') := by
  have key : ∀ (k : Nat) (q : Nat × va_E), (mw S ad ac I' J')[k]? = some q → ∃ q', (mw S ad ac I J)[k]? = some q' ∧ q'.1 = q.1 := by
    intro k q hq
    simp only [mw, List.getElem?_mapIdx] at hq ⊢
    cases hs : S.1[k]? with
    | none => rw [hs] at hq; cases hq
    | some sp =>
      rw [hs] at hq
      cases hq
      exact ⟨_, rfl, rfl⟩
  refine ⟨fun i j p q hp hq hpq => ?_, fun k q hq => ?_⟩
  · obtain ⟨p', h1, h2⟩ := key i p hp
    obtain ⟨q', h3, h4⟩ := key j q hq
    exact h.1 i j p' q' h1 h3 (by rw [h2, h4]; exact hpq)
  · obtain ⟨q', h1, h2⟩ := key k q hq
    rw [← h2]
    exact h.2 k q' h1
theorem mw_in {S : zSg} {ad : Nat → Nat} {ac : Nat → ClassId} {I : zI} {J : zJ} {k : Nat} {q : Nat × va_E} (h : (mw S ad ac I J)[k]? = some q) : zA S ad q.1 := by
  simp only [mw, List.getElem?_mapIdx] at h
  cases hs : S.1[k]? with
  | none => rw [hs] at h; cases h
  | some sp =>
    rw [hs] at h
    cases h
    exact ⟨k, (List.getElem?_eq_some_iff.mp hs).1, rfl⟩
theorem zEx_warm {S : zSg} {ad : Nat → Nat} {hf xf : Nat → Int32} {s U : State} {H : Heap} {locs : List Loc} (hW : s.WarmedH U.vm) (hS : va_S (zA S ad) s.heap H locs) (h : zEx S ad hf xf s s.heap) : zEx S ad hf xf U H := by
  obtain ⟨h1, h2, h3, h4, h5, h6, h7⟩ := h
  have hq : ∀ a : Nat, a < s.heap.size → ¬ zA S ad a → H[a]? = s.heap[a]? := hS.2.1
  exact ⟨(h1.moved hW.alike).kept hq, (h2.moved hW.alike).kept hq, (h3.moved hW.alike).kept hq, va_Nw.warmF hW h4, va_Nw.warmM hW h5, (h6.moved hW.alike).kept hq, (h7.moved hW.alike).kept hq⟩
theorem zEx_same {S : zSg} {ad : Nat → Nat} {hf xf : Nat → Int32} {u U : State} {H : Heap} (hv : u.vm = U.vm) (h : zEx S ad hf xf u H) : zEx S ad hf xf U H := by
  obtain ⟨h1, h2, h3, h4, h5, h6, h7⟩ := h
  have ha : u.vm.Alike U.vm := by rw [hv]; exact Vm.Alike.refl _
  exact ⟨h1.moved ha, h2.moved ha, h3.moved ha, va_Nw.same rfl hv h4, va_Nw.same rfl hv h5, h6.moved ha, h7.moved ha⟩
theorem zgood {ws : List Cond} (h : ∀ w ∈ ws, w ∈ zT) : GoodIn zT ws := fun w hw => ⟨h w hw, good_of_word (List.mem_filter.mp (h w hw)).2⟩
/-- a method's start and end, in the small machine's words -/
def zPre (S : zSg) (ad : Nat → Nat) (ac : Nat → ClassId) (D : va_G) (hf xf : Nat → Int32) (I : zI) (J : zJ) (U : State) : Prop := va_P D zVC (mw S ad ac I J) U.heap ∧ va_K D zVC (ztys ac) U ∧ va_D (zA S ad) (mw S ad ac I J) ∧ zEx S ad hf xf U U.heap ∧ I 1000 = hf ∧ I 1004 = xf
def zPo (S : zSg) (ad : Nat → Nat) (ac : Nat → ClassId) (D : va_G) (hf xf : Nat → Int32) (I : zI) (J : zJ) (t : State) : Prop := va_P D zVC (mw S ad ac I J) t.heap ∧ I 1000 = hf ∧ I 1004 = xf
def zQc (S : zSg) (ad : Nat → Nat) (ac : Nat → ClassId) (D : va_G) (hf xf : Nat → Int32) (v : Option Value) (I : zI) (J : zJ) : Array Value → State → Outcome → State → Prop := match v with
  | none => va_Qv (fun _ : Unit => True) (fun _ t => zPo S ad ac D hf xf I J t) (zA S ad)
  | some (.int x) => va_Qi (fun (r : Int32) (_ : Unit) => r = x) (fun _ t => zPo S ad ac D hf xf I J t) (zA S ad)
  | some (.long x) => va_Ql (fun (r : Int64) (_ : Unit) => r = x) (fun _ t => zPo S ad ac D hf xf I J t) (zA S ad)
  | _ => fun _ _ _ _ => False
/-- a run of the small machine, from a place in a method on, is a run of the big one -/
def zSnd (S : zSg) (f y pc : Nat) (L st : List Value) (I : zI) (J : zJ) (v : Option Value) (I' : zI) (J' : zJ) : Prop :=
  ∀ (ad : Nat → Nat) (ac : Nat → ClassId) (D : va_G) (hf xf : Nat → Int32) (p : Program) (l : Launch) (e : Env) (R : Room) (s : State) (m : MethodId) (args : Array Value) (below : List Frame) (meth : Method) (c : Code) (H : Heap) (locs : List Loc) (cells slots : Nat) (Q : State → Prop) (ls : Array Slot),
    zCx S ad ac D hf xf p R s m args c y → zWd S ad ac D hf xf s H locs I J → zH ad ls (zL y) L → cells ≤ R.cells → slots ≤ R.slots →
    (∀ (pc1 n1 : Nat) (i1 : Instr) (st1 : List Value) (H1 : Heap) (locs1 : List Loc) (ls1 : Array Slot), decode (zB y) pc1 = .ok (i1, n1) → (zlen i1 = 0 ∨ zlen i1 = n1) → zrt y i1 st1 = some v → zWd S ad ac D hf xf s H1 locs1 I' J' → W p l e R s m args below meth c H1 locs1 cells slots Q (F0 m pc1 ls1 (st1.map (mv ad)))) →
    W p l e R s m args below meth c H locs cells slots Q (F0 m pc ls (st.map (mv ad)))
theorem zft_ok {y pc n : Nat} {i : Instr} (h : zft y pc = some (i, n)) : decode (zB y) pc = .ok (i, n) ∧ (zlen i = 0 ∨ zlen i = n) := by
  unfold zft at h
  split at h
  · rename_i i1 n1 hd
    split at h
    · rename_i hn
      cases h
      exact ⟨hd, hn⟩
    · cases h
  · cases h
theorem zrt_ok {z : Nat} {i : Instr} {st : List Value} {v : Option Value} (h : zrt z i st = some v) : (v = none ∧ i = .return_ ∧ st = [] ∧ zZ z = 0) ∨ (∃ x, v = some (.int x) ∧ i = .ireturn ∧ st = [.int x] ∧ (zZ z = 1 ∨ ((zZ z = 3 ∨ zZ z = 4) ∧ (x = 0 ∨ x = 1)))) ∨ (∃ x, v = some (.long x) ∧ i = .lreturn ∧ st = [.long x] ∧ zZ z = 2) := by
  unfold zrt at h
  split at h
  · split at h
    · rename_i hz
      cases h
      exact Or.inl ⟨rfl, rfl, rfl, hz⟩
    · cases h
  · split at h
    · rename_i x hz
      cases h
      exact Or.inr (Or.inl ⟨_, rfl, rfl, rfl, hz⟩)
    · cases h
  · split at h
    · rename_i x hz
      cases h
      exact Or.inr (Or.inr ⟨_, rfl, rfl, rfl, hz⟩)
    · cases h
  · cases h
/-- a method by its contract -/
theorem zMet {S : zSg} {ad : Nat → Nat} {ac : Nat → ClassId} {D : va_G} {hf xf : Nat → Int32} {f z kd : Nat} {as : List Value} {I I' : zI} {J J' : zJ} {v : Option Value} (l : Launch) (hW : zWf S) (hm : zMok kd z) (hl : (zfl as).length ≤ zL z) (hs : zSnd S f z 0 (zent (zL z) as) [] I J v I' J') :
    Met l (zY z) (Cond.code (zY z) (zB z) (zL z) (zRt z) :: zT) ({ frames := zF z, cells := 0, slots := 0, locals := zW z }) (va_Pc (as.map (mv ad)) (zPre S ad ac D hf xf I J)) (zQc S ad ac D hf xf v I' J') 0 0 (zA S ad) := by
  obtain ⟨hcode, hcls, hini, hpl, hne, hpar, hrok, -⟩ := hm
  refine Met.ofW (cc := zB z) (maxL := zL z) (ret := zRt z) hpl rfl ?_
  intro p e s m args below meth c s₁ B hml hv0
  obtain ⟨rfl, hP, hK, hD, hE, hI0, hI4⟩ := hv0
  have hx := B.exec
  have hb := B.bytes
  have hr := B.returns
  have hlocks := B.notSynchronized
  have hts := atoms_spec (ws := Cond.code (zY z) (zB z) (zL z) (zRt z) :: zT) B.pre
  have hown : s.vm.findClass (zRn (zC z)) = some m.cls := by rw [← hcls]; exact findClass_of_methodNamed B.named
  rw [lg_entry_eq]
  refine hs ad ac D hf xf p l e _ s m _ below meth c s.heap [] 0 0 _ _ ⟨hx, hb, hml, hown, fun w h => hts w (List.mem_cons_of_mem _ h), hK, hE, Nat.le_refl _, Nat.le_refl _, hW⟩ ⟨hP, hD, va_S.rf, hI0, hI4⟩ (zH_ent hl) (Nat.zero_le _) (Nat.zero_le _) ?_
  intro pc1 n1 i1 st1 H1 locs1 ls1 hd1 hn1 hrt hW1
  have hS1 := hW1.2.2.1
  have hpo : ∀ t : State, t.heap = H1 → zPo S ad ac D hf xf I' J' t := fun t ht => ⟨by rw [ht]; exact hW1.1, hW1.2.2.2.1, hW1.2.2.2.2⟩
  rcases zrt_ok hrt with ⟨rfl, rfl, rfl, hz⟩ | ⟨x, rfl, rfl, rfl, hz⟩ | ⟨x, rfl, rfl, rfl, hz⟩
  · have e1 := zl1 hn1
    subst e1
    exact W.vret hx hb (by rw [hr, hrok.1 hz]) (fun t ht hW => ⟨⟨(), rfl, trivial, hpo t ht⟩, hS1.F ht⟩) hS1.2.2 hd1
  · have e1 := zl1 hn1
    subst e1
    rcases hz with hz | ⟨hz | hz, hx01⟩
    · exact W.iret (v := x) hx hb (by rw [hr, hrok.2.1 hz]) (fun t ht hW => ⟨⟨x, (), rfl, rfl, hpo t ht⟩, hS1.F ht⟩) hS1.2.2 hd1
    · exact W.zret (v := x) (ty := .boolean) hx hb (by rw [hr, hrok.2.2.2.1 hz]) (by rcases hx01 with rfl | rfl <;> decide) (fun t ht hW => ⟨⟨x, (), rfl, rfl, hpo t ht⟩, hS1.F ht⟩) hS1.2.2 hd1
    · exact W.zret (v := x) (ty := .byte) hx hb (by rw [hr, hrok.2.2.2.2 hz]) (by rcases hx01 with rfl | rfl <;> decide) (fun t ht hW => ⟨⟨x, (), rfl, rfl, hpo t ht⟩, hS1.F ht⟩) hS1.2.2 hd1
  · have e1 := zl1 hn1
    subst e1
    exact W.lret (v := x) hx hb (by rw [hr, hrok.2.2.1 hz]) (fun t ht hW => ⟨⟨x, (), rfl, rfl, hpo t ht⟩, hS1.F ht⟩) hS1.2.2 hd1

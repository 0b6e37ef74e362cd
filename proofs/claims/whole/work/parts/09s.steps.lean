/-! ===== the small machine's steps, one kind after the other ===== -/
theorem zl1 {n : Nat} (h : 1 = 0 ∨ 1 = n) : n = 1 := by omega
theorem zl2 {n : Nat} (h : 2 = 0 ∨ 2 = n) : n = 2 := by omega
theorem zl3 {n : Nat} (h : 3 = 0 ∨ 3 = n) : n = 3 := by omega
section
variable {p : Program} {l : Launch} {e : Env} {R : Room} {s : State} {m : MethodId} {args : Array Value} {below : List Frame} {meth : Method} {c : Code} {H : Heap} {locs : List Loc} {cells slots : Nat} {Q : State → Prop} {ad : Nat → Nat} {y pc n : Nat} {ls : Array Slot} {L st st' : List Value}
theorem sd_stk {i : Instr} (hx : p.tables.exec = Jvm.exec) (hb : c.code = zB y) (hown : s.vm.findClass (zRn (zC y)) = some m.cls) (hts : ∀ w ∈ zT, w.before args s = true)
    (hg : ∀ (k : Nat) (rest : List Value) (v : Value), (((zgs (zC y) k = 1 ∨ zgs (zC y) k = 2) ∧ v = .ref (ad 1000)) ∨ (zgs (zC y) k = 3 ∧ v = .int 1)) → decode (zB y) pc = .ok (.getstatic k, 3) → W p l e R s m args below meth c H locs cells slots Q (F0 m (pc + 3) ls (v :: rest)) → W p l e R s m args below meth c H locs cells slots Q (F0 m pc ls rest))
    (hd : decode (zB y) pc = .ok (i, n)) (hn : zlen i = 0 ∨ zlen i = n) (h : zstk y i st = some st')
    (k : W p l e R s m args below meth c H locs cells slots Q (F0 m (pc + n) ls (st'.map (mv ad)))) : W p l e R s m args below meth c H locs cells slots Q (F0 m pc ls (st.map (mv ad))) := by
  cases i
  case iconst z =>
    have e := zl1 hn
    subst e
    cases h
    exact lv_iconst hx hb hd rfl k
  case bipush z =>
    have e := zl2 hn
    subst e
    cases h
    exact lv_bipush hx hb hd rfl k
  case sipush z =>
    have e := zl3 hn
    subst e
    cases h
    exact lv_sipush hx hb hd rfl k
  case lconst z =>
    have e := zl1 hn
    subst e
    cases h
    exact lv_lconst hx hb hd rfl k
  case ldc z =>
    have e := zl2 hn
    subst e
    simp only [zstk] at h
    cases hk : zkI (zC y) z with
    | none => rw [hk] at h; cases h
    | some v =>
      rw [hk] at h
      cases h
      exact lv_ldc hx hb hown (hts _ (zkI_ok hk)) hd k
  case ldc_w z =>
    have e := zl3 hn
    subst e
    simp only [zstk] at h
    cases hk : zkI (zC y) z with
    | none => rw [hk] at h; cases h
    | some v =>
      rw [hk] at h
      cases h
      exact lv_ldcw hx hb hown (hts _ (zkI_ok hk)) hd k
  case ldc2_w z =>
    have e := zl3 hn
    subst e
    simp only [zstk] at h
    cases hk : zkL (zC y) z with
    | none => rw [hk] at h; cases h
    | some v =>
      rw [hk] at h
      cases h
      exact lv_ldc2 hx hb hown (hts _ (zkL_ok hk)) hd k
  case getstatic z =>
    have e := zl3 hn
    subst e
    simp only [zstk] at h
    split at h
    · rename_i hz
      cases h
      exact hg _ _ _ (Or.inl ⟨hz, rfl⟩) hd k
    · split at h
      · rename_i hz
        cases h
        exact hg _ _ _ (Or.inr ⟨hz, rfl⟩) hd k
      · cases h
  case iadd =>
    have e := zl1 hn
    subst e
    simp only [zstk] at h
    split at h
    · cases h
      exact lv_iadd hx hb hd k
    · cases h
  case isub =>
    have e := zl1 hn
    subst e
    simp only [zstk] at h
    split at h
    · cases h
      exact lv_isub hx hb hd k
    · cases h
  case imul =>
    have e := zl1 hn
    subst e
    simp only [zstk] at h
    split at h
    · cases h
      exact lv_imul hx hb hd k
    · cases h
  case iand =>
    have e := zl1 hn
    subst e
    simp only [zstk] at h
    split at h
    · cases h
      exact lv_iand hx hb hd k
    · cases h
  case ior =>
    have e := zl1 hn
    subst e
    simp only [zstk] at h
    split at h
    · cases h
      exact lv_ior hx hb hd k
    · cases h
  case ishl =>
    have e := zl1 hn
    subst e
    simp only [zstk] at h
    split at h
    · cases h
      exact lv_ishl hx hb hd k
    · cases h
  case ishr =>
    have e := zl1 hn
    subst e
    simp only [zstk] at h
    split at h
    · cases h
      exact lv_ishr hx hb hd k
    · cases h
  case ladd =>
    have e := zl1 hn
    subst e
    simp only [zstk] at h
    split at h
    · cases h
      exact lv_ladd hx hb hd k
    · cases h
  case lsub =>
    have e := zl1 hn
    subst e
    simp only [zstk] at h
    split at h
    · cases h
      exact lv_lsub hx hb hd k
    · cases h
  case lmul =>
    have e := zl1 hn
    subst e
    simp only [zstk] at h
    split at h
    · cases h
      exact lv_lmul hx hb hd k
    · cases h
  case iushr =>
    have e := zl1 hn
    subst e
    simp only [zstk] at h
    split at h
    · cases h
      exact lv_iushr hx hb hd rfl k
    · cases h
  case lshl =>
    have e := zl1 hn
    subst e
    simp only [zstk] at h
    split at h
    · cases h
      exact lv_lshl hx hb hd rfl k
    · cases h
  case i2l =>
    have e := zl1 hn
    subst e
    simp only [zstk] at h
    split at h
    · cases h
      exact lv_i2l hx hb hd rfl k
    · cases h
  case i2b =>
    have e := zl1 hn
    subst e
    simp only [zstk] at h
    split at h
    · cases h
      exact lv_i2b hx hb hd rfl k
    · cases h
  case i2s =>
    have e := zl1 hn
    subst e
    simp only [zstk] at h
    split at h
    · cases h
      exact lv_i2s hx hb hd rfl k
    · cases h
  case i2c =>
    have e := zl1 hn
    subst e
    simp only [zstk] at h
    split at h
    · cases h
      exact lv_i2c hx hb hd rfl k
    · cases h
  case lcmp =>
    have e := zl1 hn
    subst e
    simp only [zstk] at h
    split at h
    · cases h
      exact W.lcmp hx hb hd k
    · cases h
  case idiv =>
    have e := zl1 hn
    subst e
    simp only [zstk] at h
    split at h
    · split at h
      · cases h
      · rename_i hz
        cases h
        exact lv_idiv hx hb hd hz k
    · cases h
  case irem =>
    have e := zl1 hn
    subst e
    simp only [zstk] at h
    split at h
    · split at h
      · cases h
      · rename_i hz
        cases h
        exact lv_irem hx hb hd hz k
    · cases h
  case ldiv =>
    have e := zl1 hn
    subst e
    simp only [zstk] at h
    split at h
    · split at h
      · cases h
      · rename_i hz
        cases h
        exact lv_ldiv hx hb hd hz k
    · cases h
  case lrem =>
    have e := zl1 hn
    subst e
    simp only [zstk] at h
    split at h
    · split at h
      · cases h
      · rename_i hz
        cases h
        exact lv_lrem hx hb hd hz k
    · cases h
  case dup =>
    have e := zl1 hn
    subst e
    simp only [zstk] at h
    split at h
    · cases h
      exact lv_dup hx hb hd rfl k
    · cases h
      exact lv_dup hx hb hd rfl k
    · cases h
  case pop =>
    have e := zl1 hn
    subst e
    simp only [zstk] at h
    split at h
    · cases h
      exact lv_pop (va := .int _) hx hb hd rfl k
    · cases h
      exact lv_pop (va := .ref _) hx hb hd rfl k
    · cases h
  case dup2 =>
    have e := zl1 hn
    subst e
    simp only [zstk] at h
    split at h
    · cases h
      exact lv_dup2_11 hx hb hd rfl rfl k
    · cases h
  all_goals (exact absurd h (by simp [zstk]))
theorem sd_lcl {i : Instr} {L' : List Value} (hx : p.tables.exec = Jvm.exec) (hb : c.code = zB y) (hl : zH ad ls (zL y) L) (hd : decode (zB y) pc = .ok (i, n)) (hn : zlen i = 0 ∨ zlen i = n) (h : zlcl i L st = some (L', st'))
    (k : ∀ ls' : Array Slot, zH ad ls' (zL y) L' → W p l e R s m args below meth c H locs cells slots Q (F0 m (pc + n) ls' (st'.map (mv ad)))) : W p l e R s m args below meth c H locs cells slots Q (F0 m pc ls (st.map (mv ad))) := by
  cases i
  case iload z =>
    have e := zl2 hn
    subst e
    simp only [zlcl] at h
    split at h
    · rename_i x hL
      cases h
      exact lv_iload hx hb hd (hl.2.2.2 _ _ hL (by simp)) (k ls hl)
    · cases h
  case iload_n z =>
    have e := zl1 hn
    subst e
    simp only [zlcl] at h
    split at h
    · rename_i x hL
      cases h
      exact lv_iload_n hx hb hd rfl (hl.2.2.2 _ _ hL (by simp)) (k ls hl)
    · cases h
  case lload z =>
    have e := zl2 hn
    subst e
    simp only [zlcl] at h
    split at h
    · rename_i x hL
      cases h
      exact lv_lload hx hb hd (hl.2.2.2 _ _ hL (by simp)) (k ls hl)
    · cases h
  case lload_n z =>
    have e := zl1 hn
    subst e
    simp only [zlcl] at h
    split at h
    · rename_i x hL
      cases h
      exact lv_lload_n hx hb hd rfl (hl.2.2.2 _ _ hL (by simp)) (k ls hl)
    · cases h
  case aload z =>
    have e := zl2 hn
    subst e
    simp only [zlcl] at h
    split at h
    · rename_i x hL
      cases h
      exact lv_aload hx hb hd (hl.2.2.2 _ _ hL (by simp)) (k ls hl)
    · cases h
  case aload_n z =>
    have e := zl1 hn
    subst e
    simp only [zlcl] at h
    split at h
    · rename_i x hL
      cases h
      exact lv_aload_n hx hb hd rfl (hl.2.2.2 _ _ hL (by simp)) (k ls hl)
    · cases h
  case istore z =>
    have e := zl2 hn
    subst e
    simp only [zlcl] at h
    split at h
    · split at h
      · rename_i hz
        rw [hl.2.2.1] at hz
        cases h
        exact lv_istore hx hb hd (zH_has hl) hz rfl (fun ls1 h1 => k ls1 (zH_st1 hl hz h1))
      · cases h
    · cases h
  case istore_n z =>
    have e := zl1 hn
    subst e
    simp only [zlcl] at h
    split at h
    · split at h
      · rename_i hz
        rw [hl.2.2.1] at hz
        cases h
        exact lv_istore_n hx hb hd rfl (zH_has hl) hz rfl (fun ls1 h1 => k ls1 (zH_st1 hl hz h1))
      · cases h
    · cases h
  case astore z =>
    have e := zl2 hn
    subst e
    simp only [zlcl] at h
    split at h
    · split at h
      · rename_i hz
        rw [hl.2.2.1] at hz
        cases h
        exact lv_astore hx hb hd (zH_has hl) hz rfl (fun ls1 h1 => k ls1 (zH_st1 hl hz h1))
      · cases h
    · cases h
  case astore_n z =>
    have e := zl1 hn
    subst e
    simp only [zlcl] at h
    split at h
    · split at h
      · rename_i hz
        rw [hl.2.2.1] at hz
        cases h
        exact lv_astore_n hx hb hd rfl (zH_has hl) hz rfl (fun ls1 h1 => k ls1 (zH_st1 hl hz h1))
      · cases h
    · cases h
  case lstore z =>
    have e := zl2 hn
    subst e
    simp only [zlcl] at h
    split at h
    · split at h
      · rename_i hz
        rw [hl.2.2.1] at hz
        cases h
        exact lv_lstore hx hb hd (zH_has hl) hz rfl (fun ls1 h1 => k ls1 (zH_st2 hl hz h1))
      · cases h
    · cases h
  case lstore_n z =>
    have e := zl1 hn
    subst e
    simp only [zlcl] at h
    split at h
    · split at h
      · rename_i hz
        rw [hl.2.2.1] at hz
        cases h
        exact lv_lstore_n hx hb hd rfl (zH_has hl) hz rfl (fun ls1 h1 => k ls1 (zH_st2 hl hz h1))
      · cases h
    · cases h
  case iinc z b =>
    have e := zl3 hn
    subst e
    simp only [zlcl] at h
    split at h
    · rename_i x hL
      cases h
      obtain ⟨q, hq⟩ := List.getElem?_of_mem (lvO_mem (ad := ad) hL (by simp))
      have hz : z < zL y := by rw [← hl.2.2.1]; exact (List.getElem?_eq_some_iff.mp hL).1
      exact lv_iinc hx hb hd (zH_has hl) hq rfl hz rfl (fun ls1 h1 => k ls1 (zH_st1 hl hz h1))
    · cases h
  all_goals (exact absurd h (by simp [zlcl]))
theorem ztg_ok {off : Int} {t : Nat} (h : ztg pc off = some t) : (pc : Int) + off = (t : Int) := by
  unfold ztg at h
  split at h
  · rename_i u hu
    cases h
    exact hu
  · cases h
theorem sd_br {i : Instr} {pc' : Nat} (hx : p.tables.exec = Jvm.exec) (hb : c.code = zB y) (hd : decode (zB y) pc = .ok (i, n)) (hn : zlen i = 0 ∨ zlen i = n) (h : zbr i pc n st = some (pc', st'))
    (k : W p l e R s m args below meth c H locs cells slots Q (F0 m pc' ls (st'.map (mv ad)))) : W p l e R s m args below meth c H locs cells slots Q (F0 m pc ls (st.map (mv ad))) := by
  cases i
  case goto z =>
    have e := zl3 hn
    subst e
    simp only [zbr] at h
    cases ht : ztg pc z with
    | none => rw [ht] at h; cases h
    | some t =>
      rw [ht] at h
      cases h
      exact lv_goto hx hb hd (ztg_ok ht) k
  case ifCond cd z =>
    have e := zl3 hn
    subst e
    simp only [zbr] at h
    split at h
    · rename_i ht
      cases h
      cases cd
      · exact lv_if_eq hx hb hd (ztg_ok ht) (fun q => by simp only [zif, decide_eq_true_eq] at k; rw [if_pos q] at k; exact k) (fun q => by simp only [zif, decide_eq_true_eq] at k; rw [if_neg q] at k; exact k)
      · exact lv_if_ne hx hb hd (ztg_ok ht) (fun q => by simp only [zif, decide_eq_true_eq] at k; rw [if_pos q] at k; exact k) (fun q => by simp only [zif, decide_eq_true_eq] at k; rw [if_neg (not_not_intro q)] at k; exact k)
      · exact lv_if_lt hx hb hd (ztg_ok ht) (fun q => by simp only [zif, decide_eq_true_eq] at k; rw [if_pos q] at k; exact k) (fun q => by simp only [zif, decide_eq_true_eq] at k; rw [if_neg q] at k; exact k)
      · exact lv_if_ge hx hb hd (ztg_ok ht) (fun q => by simp only [zif, decide_eq_true_eq] at k; rw [if_pos q] at k; exact k) (fun q => by simp only [zif, decide_eq_true_eq] at k; rw [if_neg q] at k; exact k)
      · exact lv_if_gt hx hb hd (ztg_ok ht) (fun q => by simp only [zif, decide_eq_true_eq] at k; rw [if_pos q] at k; exact k) (fun q => by simp only [zif, decide_eq_true_eq] at k; rw [if_neg q] at k; exact k)
      · exact lv_if_le hx hb hd (ztg_ok ht) (fun q => by simp only [zif, decide_eq_true_eq] at k; rw [if_pos q] at k; exact k) (fun q => by simp only [zif, decide_eq_true_eq] at k; rw [if_neg q] at k; exact k)
    · cases h
  case if_icmp cd z =>
    have e := zl3 hn
    subst e
    simp only [zbr] at h
    split at h
    · rename_i ht
      cases h
      cases cd
      · exact lv_icmp_eq hx hb hd (ztg_ok ht) (fun q => by simp only [zic, decide_eq_true_eq] at k; rw [if_pos q] at k; exact k) (fun q => by simp only [zic, decide_eq_true_eq] at k; rw [if_neg q] at k; exact k)
      · exact lv_icmp_ne hx hb hd (ztg_ok ht) (fun q => by simp only [zic, decide_eq_true_eq] at k; rw [if_pos q] at k; exact k) (fun q => by simp only [zic, decide_eq_true_eq] at k; rw [if_neg (not_not_intro q)] at k; exact k)
      · exact lv_icmp_lt hx hb hd (ztg_ok ht) (fun q => by simp only [zic, decide_eq_true_eq] at k; rw [if_pos q] at k; exact k) (fun q => by simp only [zic, decide_eq_true_eq] at k; rw [if_neg q] at k; exact k)
      · exact lv_icmp_ge hx hb hd (ztg_ok ht) (fun q => by simp only [zic, decide_eq_true_eq] at k; rw [if_pos q] at k; exact k) (fun q => by simp only [zic, decide_eq_true_eq] at k; rw [if_neg q] at k; exact k)
      · exact lv_icmp_gt hx hb hd (ztg_ok ht) (fun q => by simp only [zic, decide_eq_true_eq] at k; rw [if_pos q] at k; exact k) (fun q => by simp only [zic, decide_eq_true_eq] at k; rw [if_neg q] at k; exact k)
      · exact lv_icmp_le hx hb hd (ztg_ok ht) (fun q => by simp only [zic, decide_eq_true_eq] at k; rw [if_pos q] at k; exact k) (fun q => by simp only [zic, decide_eq_true_eq] at k; rw [if_neg q] at k; exact k)
    · cases h
  case tableswitch d lo hi offs =>
    simp only [zbr] at h
    split at h
    · split at h
      · rename_i hq
        cases ht : ztg pc d with
        | none => rw [ht] at h; cases h
        | some t =>
          rw [ht] at h
          cases h
          exact lv_tableOut hx hb hd hq (ztg_ok ht) k
      · rename_i hq
        split at h
        · rename_i o ho
          cases ht : ztg pc o with
          | none => rw [ht] at h; cases h
          | some t =>
            rw [ht] at h
            cases h
            exact lv_tableIn hx hb hd (fun z => hq (Or.inl z)) (fun z => hq (Or.inr z)) ho (ztg_ok ht) k
        · cases h
    · cases h
  case lookupswitch d ps =>
    simp only [zbr] at h
    split at h
    · split at h
      · rename_i hq
        cases ht : ztg pc (Op.lookupswitch.offset ps.toList d _) with
        | none => rw [ht] at h; cases h
        | some t =>
          rw [ht] at h
          cases h
          exact lv_lookup hx hb hd hq rfl (ztg_ok ht) k
      · cases h
    · cases h
  all_goals (exact absurd h (by simp [zbr]))
end

/-! ===== every run of the small machine is one of the big one ===== -/
theorem zC_lt (z : Nat) : zC z < 99 := by
  have hall : ∀ x ∈ zCl, x < 99 := by decide +kernel
  unfold zC
  rw [List.getD]
  cases h : zCl[z]? with
  | none => decide
  | some x => exact hall x (List.mem_of_getElem? h)
theorem zcls_at2 {S : zSg} {a ci : Nat} (hW : zWf S) (h : zcls S a = ci) (hc : ci < 99) (h10 : ci ≠ 10) : ci < 7 ∧ ∃ fs, S.1[a]? = some (.inl (ci, fs)) := by
  unfold zcls at h
  split at h
  · rename_i ci' fs hs
    subst h
    have := hW.2 _ _ hs
    simp only [zWs] at this
    exact ⟨this.1, fs, hs⟩
  · omega
  · split at h <;> omega
section
variable {p : Program} {l : Launch} {e : Env} {R : Room} {s : State} {m : MethodId} {args : Array Value} {below : List Frame} {meth : Method} {c : Code} {H : Heap} {locs : List Loc} {cells slots : Nat} {Q : State → Prop} {ad : Nat → Nat} {y pc n : Nat} {ls : Array Slot} {L st st' : List Value}
variable {S : zSg} {ac : Nat → ClassId} {D : va_G} {hf xf : Nat → Int32} {I I' : zI} {J J' : zJ}
theorem zcall_go {st0 rest : List Value} {a0 : Array Value} {v1 : Option Value} {I1 : zI} {J1 : zJ} (hr : va_Run p l e R s m args below meth c H locs cells slots 0 0 (F0 m pc ls st0) rest (zQc S ad ac D hf xf v1 I1 J1 a0) (zA S ad)) (hS : va_S (zA S ad) s.heap H locs)
    (kk : ∀ (H1 : Heap) (locs1 : List Loc), va_P D zVC (mw S ad ac I1 J1) H1 → I1 1000 = hf → I1 1004 = xf → va_S (zA S ad) s.heap H1 locs1 → W p l e R s m args below meth c H1 locs1 cells slots Q (F0 m (pc + 3) ls (v1.toList.map (mv ad) ++ rest))) : W p l e R s m args below meth c H locs cells slots Q (F0 m pc ls st0) := by
  have bad : (∀ st oc t, zQc S ad ac D hf xf v1 I1 J1 a0 st oc t → False) → W p l e R s m args below meth c H locs cells slots Q (F0 m pc ls st0) := by
    intro hb T hT X
    obtain ⟨v, st₀, t, T', L', h0, X', hL, e1, e2, hq, st⟩ := hr T hT X
    exact (hb _ _ _ hq).elim
  cases v1 with
  | none => exact va_callv (a := a0) (post := fun _ : Unit => True) (B := fun _ t => zPo S ad ac D hf xf I1 J1 t) (A1 := zA S ad) hr hS (fun q _ h => h) (fun q h => h) (fun u t H1 locs1 ht hvm hp hB hz hk hS1 => kk H1 locs1 (by rw [← ht]; exact hB.1) hB.2.1 hB.2.2 hS1)
  | some w =>
    cases w with
    | int x =>
      refine va_calli (a := a0) (post := fun (r : Int32) (_ : Unit) => r = x) (B := fun _ t => zPo S ad ac D hf xf I1 J1 t) (A1 := zA S ad) hr hS (fun q _ h => h) (fun q h => h) (fun r u t H1 locs1 ht hvm hp hB hz hk hS1 => ?_)
      have hp : r = x := hp
      subst hp
      exact kk H1 locs1 (by rw [← ht]; exact hB.1) hB.2.1 hB.2.2 hS1
    | long x =>
      refine va_calll (a := a0) (post := fun (r : Int64) (_ : Unit) => r = x) (B := fun _ t => zPo S ad ac D hf xf I1 J1 t) (A1 := zA S ad) hr hS (fun q _ h => h) (fun q h => h) (fun r u t H1 locs1 ht hvm hp hB hz hk hS1 => ?_)
      have hp : r = x := hp
      subst hp
      exact kk H1 locs1 (by rw [← ht]; exact hB.1) hB.2.1 hB.2.2 hS1
    | _ => exact bad (fun _ _ _ h => h)
theorem zblind {as : List Value} : FrameBlind (va_Pc (as.map (mv ad)) (zPre S ad ac D hf xf I J)) := by
  intro a U g mk q
  obtain ⟨q0, qP, qK, qD, qE, q1, q2⟩ := q
  exact ⟨q0, qP, va_K.moved (u := U) (U := U.calling g mk a) (Vm.Alike.refl U.vm) qK, qD, zEx_same rfl qE, q1, q2⟩
theorem zpre_of (C : zCx S ad ac D hf xf p R s m args c y) (Wd : zWd S ad ac D hf xf s H locs I J) : ∀ U : State, U.heap = H → s.WarmedH U.vm → zPre S ad ac D hf xf I J U := by
  obtain ⟨hx, hb, hml, hown, hts, hK, hE, hF, hWl, hWf⟩ := C
  intro U hU hW
  exact ⟨by rw [hU]; exact Wd.1, va_K.moved hW.alike hK, Wd.2.1, by rw [hU]; exact zEx_warm hW Wd.2.2.1 hE, Wd.2.2.2.1, Wd.2.2.2.2⟩
theorem hsum2 {r : List Value} (h : zcs r ≤ 8) : ((r.map (mv ad)).map fun v => v.category).sum ≤ 8 := by
  rw [List.map_map]
  have : ((fun v => v.category) ∘ mv ad : Value → Nat) = fun v => v.category := by funext v; exact mv_cat
  rw [this]
  exact h
/-- a call -/
theorem sd_call {i : Instr} {z f : Nat} {as r : List Value} {v1 : Option Value} {I1 : zI} {J1 : zJ} (C : zCx S ad ac D hf xf p R s m args c y) (Wd : zWd S ad ac D hf xf s H locs I J) (hl : zH ad ls (zL y) L) (hcs : cells ≤ R.cells) (hss : slots ≤ R.slots) (hd : decode (zB y) pc = .ok (i, n)) (hn : zlen i = 0 ∨ zlen i = n) (h : zcal S y i st = some (z, as, r))
    (hz : zSnd S f z 0 (zent (zL z) as) [] I J v1 I1 J1)
    (kk : ∀ (H1 : Heap) (locs1 : List Loc), zWd S ad ac D hf xf s H1 locs1 I1 J1 → W p l e R s m args below meth c H1 locs1 cells slots Q (F0 m (pc + n) ls ((v1.toList ++ r).map (mv ad)))) : W p l e R s m args below meth c H locs cells slots Q (F0 m pc ls (st.map (mv ad))) := by
  have C0 := C
  obtain ⟨hx, hb, hml, hown, hts, hK, hE, hF, hWl, hWf⟩ := C
  have hpre := zpre_of C0 Wd
  have hS := Wd.2.2.1
  have go : ∀ (H1 : Heap) (locs1 : List Loc), va_P D zVC (mw S ad ac I1 J1) H1 → I1 1000 = hf → I1 1004 = xf → va_S (zA S ad) s.heap H1 locs1 → W p l e R s m args below meth c H1 locs1 cells slots Q (F0 m (pc + n) ls (v1.toList.map (mv ad) ++ r.map (mv ad))) := by
    intro H1 locs1 h1 h2 h3 h4
    have := kk H1 locs1 ⟨h1, mw_D Wd.2.1, h4, h2, h3⟩
    rwa [List.map_append] at this
  cases i
  case invokevirtual k =>
    have e := zl3 hn
    subst e
    simp only [zcal] at h
    split at h
    · rename_i z' hct
      split at h
      · rename_i a r' hdr
        split at h
        · rename_i hc
          obtain ⟨h1, h2, h3, h4, h5⟩ := hc
          have hst : st = st.take (zN z') ++ Value.ref a :: r' := by rw [← hdr]; exact (List.take_append_drop _ _).symm
          obtain ⟨hlk, hm⟩ := cok hct
          have h := Option.some.inj h
          have e1 := congrArg Prod.fst h
          have e2 := congrArg (fun q => q.2.1) h
          have e3 := congrArg (fun q => q.2.2) h
          dsimp only at e1 e2 e3
          subst e1
          subst e2
          subst e3
          have hlk : Cond.methodLink (zRn (zC y)) k (zY z') ∈ zT := by
            rcases hlk with hlk | hlk
            · exact hlk
            · exact absurd hlk.2.2.2 (by decide)
          have hM := zMet (kd := 0) (ad := ad) (ac := ac) (D := D) (hf := hf) (xf := xf) l hWf hm h5 hz
          obtain ⟨hcode, hcls, hini, hpl, hne, hpar, hrok, hk0, -⟩ := hm
          obtain ⟨hin, hse⟩ := hk0 rfl
          have hrecv : ∃ cell : Cell, H[ad a]? = some cell ∧ cell.vm.isStatics = false ∧ s.vm.findClass (zRn (zC z')) = some cell.cls := by
            by_cases h10 : zC z' = 10
            · rw [h10] at h2 ⊢
              rcases zcls_10 hWf h2 with rfl | rfl | rfl
              · exact vk_recv (i := 0) hE.2.2.2.2.2.1 (by decide) hS
              · exact vk_recv (i := 1) hE.2.2.2.2.2.1 (by decide) hS
              · exact vk_recv (i := 2) hE.2.2.2.2.2.1 (by decide) hS
            · obtain ⟨h7, fs, hs⟩ := zcls_at2 hWf h2 (zC_lt _) h10
              exact va_recv hK Wd.1 (ci := zC z') (q0 := a) (zcl_at h7) (mw_at hs)
          simp only [zrok, decide_eq_true_eq] at h4
          refine zcall_go (a0 := ((Value.ref (ad a)) :: (st.take (zN z')).reverse.map (mv ad)).toArray) (rest := r'.map (mv ad)) (va_runV (As := (st.take (zN z')).reverse.map (mv ad)) (Ts := zT) (own := zRn (zC y)) (C := zRn (zC z')) (cc := zB y) (nL := zL y) (b := ad a) ⟨hx, hb, hml, hown, hts⟩ hM (cwV (zN z') hts (zgood (fun w hw => ?_)) rfl rfl rfl ⟨hcls, hne.1, hne.2, hpar⟩ ⟨by show zF z' + 1 ≤ R.frames; omega, by show 8 + (zL z' + 11) + zW z' ≤ R.locals; omega⟩) ⟨zblind, hrecv, fun U hU hW => ⟨rfl, hpre U hU hW⟩⟩ rfl ?_ hl.1 ?_ (lv_room (hsum2 h3)) hd ⟨hcs, hss⟩) hS go
          · simp only [wsV, List.mem_append, List.mem_cons, List.not_mem_nil, or_false] at hw
            rcases hw with (rfl | rfl | rfl | rfl) | (rfl | hw)
            · exact hlk
            · exact hin
            · exact hse
            · exact hini
            · exact hcode
            · exact hw
          · rw [List.length_map, List.length_reverse, List.length_take]
            omega
          · show st.map (mv ad) = _
            conv => lhs; rw [hst]
            rw [List.map_append, List.map_cons, ← List.map_reverse, List.reverse_reverse]
            rfl
        · cases h
      · cases h
    · cases h
  case invokestatic k =>
    have e := zl3 hn
    subst e
    simp only [zcal] at h
    split at h
    · rename_i z' hct
      split at h
      · rename_i hc
        obtain ⟨h1, h3, h4, h5⟩ := hc
        obtain ⟨hlk, hm⟩ := cok hct
        have h := Option.some.inj h
        have e1 := congrArg Prod.fst h
        have e2 := congrArg (fun q => q.2.1) h
        have e3 := congrArg (fun q => q.2.2) h
        dsimp only at e1 e2 e3
        subst e1
        subst e2
        subst e3
        have hM := zMet (kd := 1) (ad := ad) (ac := ac) (D := D) (hf := hf) (xf := xf) l hWf hm h5 hz
        obtain ⟨hcode, hcls, hini, hpl, hne, hpar, hrok, -, hk1⟩ := hm
        have hst := hk1 rfl
        simp only [zrok, decide_eq_true_eq] at h4
        have hlen : ((st.take (zN z')).reverse.map (mv ad)).length = zN z' := by
          rw [List.length_map, List.length_reverse, List.length_take]
          omega
        have hstk : st.map (mv ad) = ((st.take (zN z')).reverse.map (mv ad)).reverse ++ (st.drop (zN z')).map (mv ad) := by
          rw [← List.map_reverse, List.reverse_reverse, ← List.map_append, List.take_append_drop]
        have hrm : zF z' + 1 ≤ R.frames ∧ 8 + (zL z' + 11) + zW z' ≤ R.locals := ⟨by omega, by omega⟩
        rcases hlk with hlk | hlk
        · refine zcall_go (a0 := ((st.take (zN z')).reverse.map (mv ad)).toArray) (rest := (st.drop (zN z')).map (mv ad)) (va_runS (As := (st.take (zN z')).reverse.map (mv ad)) (Ts := zT) (own := zRn (zC y)) (cc := zB y) (nL := zL y) ⟨hx, hb, hml, hown, hts⟩ hM (va_cwS (zN z') hts (zgood (fun w hw => ?_)) rfl rfl rfl ⟨hne.1, hne.2, hpar⟩ hrm) ⟨zblind, fun U hU hW => ⟨rfl, hpre U hU hW⟩⟩ rfl hlen hl.1 hstk (lv_room (hsum2 h3)) hd ⟨hcs, hss⟩) hS go
          simp only [va_wsS, List.mem_append, List.mem_cons, List.not_mem_nil, or_false] at hw
          rcases hw with (rfl | rfl | rfl) | (rfl | hw)
          · exact hlk
          · exact hst
          · rw [hcls]; exact hini
          · exact hcode
          · exact hw
        · obtain ⟨q1, q2, q3, -⟩ := hlk
          subst q2
          subst q3
          rw [q1] at hown
          refine zcall_go (a0 := ((st.take (zN _)).reverse.map (mv ad)).toArray) (rest := (st.drop (zN _)).map (mv ad)) (va_runSN (As := (st.take (zN _)).reverse.map (mv ad)) (Ts := zT) (own := zRn 2) (cc := zB y) (nL := zL y) (host := "ProofDay") ⟨hx, hb, hml, hown, hts⟩ hM ⟨va_cnB (zN _) hts (zgood (fun w hw => ?_)) rfl rfl rfl hE.2.2.2.2.1 (hts _ hini) ⟨hne.1, hne.2, hpar⟩ hrm, hts _ hst, trivial⟩ ⟨zblind, fun U hU hW => ⟨rfl, hpre U hU hW⟩⟩ rfl hlen hl.1 hstk (lv_room (hsum2 h3)) hd ⟨hcs, hss⟩) hS go
          rcases List.mem_cons.mp hw with rfl | hw
          · exact hcode
          · exact hw
      · cases h
    · cases h
  all_goals (exact absurd h (by simp [zcal]))
end
theorem zex_sound {S : zSg} (hW : zWf S) : ∀ (f y pc : Nat) (L st : List Value) (I : zI) (J : zJ) (v : Option Value) (I' : zI) (J' : zJ), zex S f y pc L st I J = some (v, I', J') → zSnd S f y pc L st I J v I' J' := by
  intro f
  induction f with
  | zero => intro y pc L st I J v I' J' h; simp [zex] at h
  | succ f ih =>
    intro y pc L st I J v I' J' h ad ac D hf xf p l e R s m args below meth c H locs cells slots Q ls C Wd hl hcs hss fin
    rw [zex] at h
    cases hft : zft y pc with
    | none => simp [zstp, hft] at h
    | some q =>
      obtain ⟨i, n⟩ := q
      obtain ⟨hd, hn⟩ := zft_ok hft
      have C0 := C
      obtain ⟨hx, hb, hml, hown, hts, hK, hE, hF, hWl, -⟩ := C
      simp only [zstp, hft] at h
      cases h0 : zstk y i st with
      | some st0 =>
        simp only [zst0, h0] at h
        exact sd_stk hx hb hown hts (sd_hg C0 Wd) hd hn h0 (ih _ _ _ _ _ _ _ _ _ h ad ac D hf xf p l e R s m args below meth c H locs cells slots Q ls C0 Wd hl hcs hss fin)
      | none =>
        simp only [zst0, h0] at h
        cases h1 : zlcl i L st with
        | some q1 =>
          obtain ⟨L1, st1⟩ := q1
          simp only [zst1, h1] at h
          exact sd_lcl hx hb hl hd hn h1 (fun ls1 hl1 => ih _ _ _ _ _ _ _ _ _ h ad ac D hf xf p l e R s m args below meth c H locs cells slots Q ls1 C0 Wd hl1 hcs hss fin)
        | none =>
          simp only [zst1, h1] at h
          cases h2 : zbr i pc n st with
          | some q2 =>
            obtain ⟨pc2, st2⟩ := q2
            simp only [zst2, h2] at h
            exact sd_br hx hb hd hn h2 (ih _ _ _ _ _ _ _ _ _ h ad ac D hf xf p l e R s m args below meth c H locs cells slots Q ls C0 Wd hl hcs hss fin)
          | none =>
            simp only [zst2, h2] at h
            cases h3 : zmem S y i st I J with
            | some q3 =>
              obtain ⟨st3, I3, J3⟩ := q3
              simp only [zst3, h3] at h
              exact sd_mem C0 Wd hl hcs hss hd hn h3 (fun H1 locs1 Wd1 => ih _ _ _ _ _ _ _ _ _ h ad ac D hf xf p l e R s m args below meth c H1 locs1 cells slots Q ls C0 Wd1 hl hcs hss fin)
            | none =>
              simp only [zst3, h3] at h
              cases h4 : zrt y i st with
              | some v4 =>
                simp only [zst4, h4] at h
                have h := Option.some.inj h
                cases h
                exact fin pc n i st H locs ls hd hn h4 Wd
              | none =>
                simp only [zst4, h4] at h
                cases h5 : zcal S y i st with
                | none => rw [h5] at h; cases h
                | some q5 =>
                  obtain ⟨z, as, r⟩ := q5
                  rw [h5] at h
                  dsimp only at h
                  cases hz : zex S f z 0 (zent (zL z) as) [] I J with
                  | none => rw [hz] at h; cases h
                  | some w =>
                    obtain ⟨v1, I1, J1⟩ := w
                    rw [hz] at h
                    dsimp only at h
                    exact sd_call C0 Wd hl hcs hss hd hn h5 (ih _ _ _ _ _ _ _ _ _ hz) (fun H1 locs1 Wd1 => ih _ _ _ _ _ _ _ _ _ h ad ac D hf xf p l e R s m args below meth c H1 locs1 cells slots Q ls C0 Wd1 hl hcs hss fin)

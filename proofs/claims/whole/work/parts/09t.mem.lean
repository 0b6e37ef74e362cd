/-! ===== the small machine's cells over the big one ===== -/
def zSx (S : zSg) (ad : Nat → Nat) (U : State) (H : Heap) : Prop := vk_S 3 [3, 3, 6] [[108, 100, 116], [97, 113, 111], [48, 49, 50, 51, 52, 53]] (fun i => ad (1001 + i)) (fun i => ad (1011 + i)) (zA S ad) U H ∧ va_Z "java/lang/String" "COMPACT_STRINGS" "Z" (.int 1) (zA S ad) U H
def zEx (S : zSg) (ad : Nat → Nat) (hf xf : Nat → Int32) (U : State) (H : Heap) : Prop :=
  va_Z "ProofDay" "HARD" "[I" (.ref (ad 1000)) (zA S ad) U H ∧ va_T .int (ad 1000) 3 (fun j => .int (hf j)) (zA S ad) U H ∧ va_T .int (ad 1004) S.2 (fun j => .int (xf j)) (zA S ad) U H ∧ va_Nw (.fieldLinkNest "ProofDay$Night" 106 "ProofDay" "HARD" "[I" "ProofDay") U ∧ va_Nw (.methodLinkNest "ProofDay$Sheet" 32 ⟨"ProofDay", "below", "(II)Z"⟩ "ProofDay") U ∧ zSx S ad U H
def zWd (S : zSg) (ad : Nat → Nat) (ac : Nat → ClassId) (D : va_G) (hf xf : Nat → Int32) (s : State) (H : Heap) (locs : List Loc) (I : zI) (J : zJ) : Prop :=
  va_P D zVC (mw S ad ac I J) H ∧ va_D (zA S ad) (mw S ad ac I J) ∧ va_S (zA S ad) s.heap H locs ∧ I 1000 = hf ∧ I 1004 = xf
def zCx (S : zSg) (ad : Nat → Nat) (ac : Nat → ClassId) (D : va_G) (hf xf : Nat → Int32) (p : Program) (R : Room) (s : State) (m : MethodId) (args : Array Value) (c : Code) (y : Nat) : Prop :=
  p.tables.exec = Jvm.exec ∧ c.code = zB y ∧ c.maxLocals = zL y ∧ s.vm.findClass (zRn (zC y)) = some m.cls ∧ (∀ w ∈ zT, w.before args s = true) ∧ va_K D zVC (ztys ac) s ∧ zEx S ad hf xf s s.heap ∧ zF y ≤ R.frames ∧ zW y ≤ R.locals ∧ zWf S
theorem zcls_at {S : zSg} {a ci : Nat} (h : zcls S a = ci) (hc : ci < 7) : ∃ fs, S.1[a]? = some (.inl (ci, fs)) := by
  unfold zcls at h
  split at h
  · rename_i ci' fs hs
    subst h
    exact ⟨fs, hs⟩
  · omega
  · split at h <;> omega
theorem zcls_10 {S : zSg} {a : Nat} (hW : zWf S) (h : zcls S a = 10) : a = 1001 ∨ a = 1002 ∨ a = 1003 := by
  unfold zcls at h
  split at h
  · rename_i ci' fs hs
    have := hW.2 _ _ hs
    simp only [zWs] at this
    omega
  · omega
  · split at h
    · assumption
    · omega
theorem zgs_1 {x k : Nat} (h : zgs x k = 1) : x = 5 ∧ k = 99 := by
  unfold zgs at h
  split at h
  · assumption
  · split at h
    · omega
    · split at h <;> omega
theorem zgs_2 {x k : Nat} (h : zgs x k = 2) : x = 0 ∧ k = 106 := by
  unfold zgs at h
  split at h
  · omega
  · split at h
    · assumption
    · split at h <;> omega
theorem zgs_3 {x k : Nat} (h : zgs x k = 3) : x = 10 ∧ k = 38 := by
  unfold zgs at h
  split at h
  · omega
  · split at h
    · omega
    · split at h
      · assumption
      · omega
theorem zsf_1 {x k : Nat} (h : zsf x k = 1) : x = 10 ∧ k = 9 := by
  unfold zsf at h
  split at h
  · assumption
  · split at h <;> omega
theorem zsf_2 {x k : Nat} (h : zsf x k = 2) : x = 10 ∧ k = 15 := by
  unfold zsf at h
  split at h
  · omega
  · split at h
    · assumption
    · omega
/-- what the kind of a row says of its place -/
theorem zkd_all {S : zSg} (hW : zWf S) {a k : Nat} (h : zkd S a = k) : (∃ n, S.1[a]? = some (.inr (.inl (k, n))) ∧ zln S a = n ∧ k ≤ 2) ∨ (∃ q, S.1[a]? = some (.inr (.inr (k, q))) ∧ zln S a = q.length ∧ (k = 3 ∨ k = 4)) ∨ k = 99 ∨ (k = 10 ∧ a = 1000 ∧ zln S a = 3) ∨ (k = 11 ∧ a = 1004 ∧ zln S a = S.2) ∨ (k = 12 ∧ ((a = 1011 ∧ zln S a = 3) ∨ (a = 1012 ∧ zln S a = 3) ∨ (a = 1013 ∧ zln S a = 6))) := by
  unfold zkd at h
  split at h
  · rename_i k' n hs
    subst h
    have := hW.2 _ _ hs
    simp only [zWs] at this
    exact Or.inl ⟨n, hs, by simp [zln, hs], this⟩
  · rename_i k' q hs
    subst h
    have := hW.2 _ _ hs
    simp only [zWs] at this
    exact Or.inr (Or.inl ⟨q, hs, by simp [zln, hs], this.1⟩)
  · exact Or.inr (Or.inr (Or.inl h.symm))
  · rename_i hs
    split at h
    · rename_i ha
      subst ha
      exact Or.inr (Or.inr (Or.inr (Or.inl ⟨h.symm, rfl, by simp [zln, hs]⟩)))
    · split at h
      · rename_i ha
        subst ha
        exact Or.inr (Or.inr (Or.inr (Or.inr (Or.inl ⟨h.symm, rfl, by simp [zln, hs]⟩))))
      · split at h
        · rename_i ha
          refine Or.inr (Or.inr (Or.inr (Or.inr (Or.inr ⟨h.symm, ?_⟩))))
          rcases ha with ha | ha | ha
          · subst ha; exact Or.inl ⟨rfl, by simp [zln, hs]⟩
          · subst ha; exact Or.inr (Or.inl ⟨rfl, by simp [zln, hs]⟩)
          · subst ha; exact Or.inr (Or.inr ⟨rfl, by simp [zln, hs]⟩)
        · exact Or.inr (Or.inr (Or.inl h.symm))
theorem zkd_at {S : zSg} (hW : zWf S) {a k : Nat} (h : zkd S a = k) (hk : k ≤ 2) : ∃ n, S.1[a]? = some (.inr (.inl (k, n))) ∧ zln S a = n := by
  rcases zkd_all hW h with ⟨n, h1, h2, -⟩ | ⟨q, h1, h2, h3⟩ | h1 | ⟨h1, -⟩ | ⟨h1, -⟩ | ⟨h1, -⟩
  · exact ⟨n, h1, h2⟩
  all_goals omega
theorem zkd_ar {S : zSg} (hW : zWf S) {a k : Nat} (h : zkd S a = k) (hk : k = 3 ∨ k = 4) : ∃ q, S.1[a]? = some (.inr (.inr (k, q))) ∧ zln S a = q.length := by
  rcases zkd_all hW h with ⟨n, h1, h2, h3⟩ | ⟨q, h1, h2, h3⟩ | h1 | ⟨h1, -⟩ | ⟨h1, -⟩ | ⟨h1, -⟩
  · omega
  · exact ⟨q, h1, h2⟩
  all_goals omega
theorem zkd_10 {S : zSg} (hW : zWf S) {a : Nat} (h : zkd S a = 10) : a = 1000 ∧ zln S a = 3 := by
  rcases zkd_all hW h with ⟨n, h1, h2, h3⟩ | ⟨q, h1, h2, h3⟩ | h1 | ⟨h1, h2⟩ | ⟨h1, -⟩ | ⟨h1, -⟩
  · omega
  · omega
  · omega
  · exact h2
  all_goals omega
theorem zkd_11 {S : zSg} (hW : zWf S) {a : Nat} (h : zkd S a = 11) : a = 1004 ∧ zln S a = S.2 := by
  rcases zkd_all hW h with ⟨n, h1, h2, h3⟩ | ⟨q, h1, h2, h3⟩ | h1 | ⟨h1, h2⟩ | ⟨h1, h2⟩ | ⟨h1, -⟩
  · omega
  · omega
  · omega
  · omega
  · exact h2
  · omega
theorem zkd_12 {S : zSg} (hW : zWf S) {a : Nat} (h : zkd S a = 12) : (a = 1011 ∧ zln S a = 3) ∨ (a = 1012 ∧ zln S a = 3) ∨ (a = 1013 ∧ zln S a = 6) := by
  rcases zkd_all hW h with ⟨n, h1, h2, h3⟩ | ⟨q, h1, h2, h3⟩ | h1 | ⟨h1, h2⟩ | ⟨h1, h2⟩ | ⟨h1, h2⟩
  · omega
  · omega
  · omega
  · omega
  · omega
  · exact h2
theorem vp_zix {i : Int32} {n : Nat} (h : zix i n) : vp_in i n := vp_in_iff.mpr h
section
variable {p : Program} {l : Launch} {e : Env} {R : Room} {s : State} {m : MethodId} {args : Array Value} {below : List Frame} {meth : Method} {c : Code} {H : Heap} {locs : List Loc} {cells slots : Nat} {Q : State → Prop} {ad : Nat → Nat} {y pc n : Nat} {ls : Array Slot} {L st st' : List Value}
variable {S : zSg} {ac : Nat → ClassId} {D : va_G} {hf xf : Nat → Int32} {I I' : zI} {J J' : zJ}
theorem sd_hg (C : zCx S ad ac D hf xf p R s m args c y) (Wd : zWd S ad ac D hf xf s H locs I J) : ∀ (k : Nat) (rest : List Value) (v : Value), (((zgs (zC y) k = 1 ∨ zgs (zC y) k = 2) ∧ v = .ref (ad 1000)) ∨ (zgs (zC y) k = 3 ∧ v = .int 1)) → decode (zB y) pc = .ok (.getstatic k, 3) → W p l e R s m args below meth c H locs cells slots Q (F0 m (pc + 3) ls (v :: rest)) → W p l e R s m args below meth c H locs cells slots Q (F0 m pc ls rest) := by
  obtain ⟨hx, hb, hml, hown, hts, hK, hE, hF, hWl, hWf⟩ := C
  intro k rest v hz hd kk
  rcases hz with ⟨hz, rfl⟩ | ⟨hz, rfl⟩
  · rcases hz with hz | hz
    · obtain ⟨h1, h2⟩ := zgs_1 hz
      rw [h1] at hown
      subst h2
      exact va_gets hx hb hE.1 Wd.2.2.1 hown (hts _ w_hd) (fun _ h => h) hd kk
    · obtain ⟨h1, h2⟩ := zgs_2 hz
      rw [h1] at hown
      subst h2
      exact va_getsN hx hb hE.1 Wd.2.2.1 hown (va_Nw.use rfl hE.2.2.2.1) (fun _ h => h) hd kk
  · obtain ⟨h1, h2⟩ := zgs_3 hz
    rw [h1] at hown
    subst h2
    exact va_gets hx hb hE.2.2.2.2.2.2 Wd.2.2.1 hown (hts _ w_sv.2.2) (fun _ h => h) hd kk
/-- a write into a cell of the world -/
theorem zWd_set {a : Nat} {sp : zSp} {el : va_E} {H1 : Heap} {locs1 : List Loc} (hW : zWf S) (Wd : zWd S ad ac D hf xf s H locs I J) (hs : S.1[a]? = some sp) (hI : ∀ c, c ≠ a → I' c = I c) (hJ : ∀ c, c ≠ a → J' c = J c) (he : mcl ad ac (I' a) (J' a) sp = el)
    (h1 : va_P D zVC ((mw S ad ac I J).set a (ad a, el)) H1) (h2 : va_D (zA S ad) ((mw S ad ac I J).set a (ad a, el))) (h3 : va_S (zA S ad) s.heap H1 locs1) : zWd S ad ac D hf xf s H1 locs1 I' J' := by
  rw [mw_set hs hI hJ he] at h1 h2
  have hlt : a < S.1.length := (List.getElem?_eq_some_iff.mp hs).1
  have := hW.1
  exact ⟨h1, h2, h3, by rw [hI 1000 (by omega)]; exact Wd.2.2.2.1, by rw [hI 1004 (by omega)]; exact Wd.2.2.2.2⟩
theorem sd_mem {i : Instr} (C : zCx S ad ac D hf xf p R s m args c y) (Wd : zWd S ad ac D hf xf s H locs I J) (hl : zH ad ls (zL y) L)
    (hcs : cells ≤ R.cells) (hss : slots ≤ R.slots) (hd : decode (zB y) pc = .ok (i, n)) (hn : zlen i = 0 ∨ zlen i = n) (h : zmem S y i st I J = some (st', I', J'))
    (k : ∀ (H1 : Heap) (locs1 : List Loc), zWd S ad ac D hf xf s H1 locs1 I' J' → W p l e R s m args below meth c H1 locs1 cells slots Q (F0 m (pc + n) ls (st'.map (mv ad)))) : W p l e R s m args below meth c H locs cells slots Q (F0 m pc ls (st.map (mv ad))) := by
  have C0 := C
  obtain ⟨hx, hb, hml, hown, hts, hK, hE, hF, hWl, hWf⟩ := C
  have hP := Wd.1
  have hD := Wd.2.1
  have hS := Wd.2.2.1
  have hsum : ∀ r : List Value, zcs r ≤ 8 → ((r.map (mv ad)).map fun v => v.category).sum ≤ 8 := by
    intro r hr
    rw [List.map_map]
    have : ((fun v => v.category) ∘ mv ad : Value → Nat) = fun v => v.category := by funext v; exact mv_cat
    rw [this]
    exact hr
  cases i
  case getfield z =>
    have e := zl3 hn
    subst e
    simp only [zmem] at h
    split at h
    · rename_i a r
      split at h
      · rename_i ci f hfr
        split at h
        · rename_i hc
          obtain ⟨h7, hf2, hlk⟩ := fok hfr
          obtain ⟨fs, hs⟩ := zcls_at hc h7
          have hfl : f < fs.length := by have := hWf.2 _ _ hs; simp only [zWs] at this; omega
          have ho : fs[f]? = some fs[f] := List.getElem?_eq_getElem hfl
          cases h
          have kk := k H locs Wd
          have e2 : mv ad (zgf S I a f) = mfo ad (I a) f fs[f] := by
            simp only [zgf, hs, ho]
            cases fs[f] <;> rfl
          rw [List.map_cons, e2] at kk
          exact va_get (D := D) hx hb hts (uws h7) hown hK hP _ (mw_at hs) (zcl_at h7) f hf2 (hts _ hlk) (fun _ h => h) (mfs_at ho) hd kk
        · cases h
      · split at h
        · rename_i hc
          obtain ⟨q1, q2⟩ := zsf_1 hc.2
          cases h
          have kk := k H locs Wd
          rw [q1] at hown
          subst q2
          rcases zcls_10 hWf hc.1 with rfl | rfl | rfl
          · exact vk_getf hx hb (hE.2.2.2.2.2.1.1 0 (by decide)).2.2.1 hS hown (hts _ w_sv.1) (fun _ h => h) hd kk
          · exact vk_getf hx hb (hE.2.2.2.2.2.1.1 1 (by decide)).2.2.1 hS hown (hts _ w_sv.1) (fun _ h => h) hd kk
          · exact vk_getf hx hb (hE.2.2.2.2.2.1.1 2 (by decide)).2.2.1 hS hown (hts _ w_sv.1) (fun _ h => h) hd kk
        · split at h
          · rename_i hc
            obtain ⟨q1, q2⟩ := zsf_2 hc.2
            cases h
            have kk := k H locs Wd
            rw [q1] at hown
            subst q2
            rcases zcls_10 hWf hc.1 with rfl | rfl | rfl
            · exact vk_getf hx hb (hE.2.2.2.2.2.1.1 0 (by decide)).2.1 hS hown (hts _ w_sv.2.1) (fun _ h => h) hd kk
            · exact vk_getf hx hb (hE.2.2.2.2.2.1.1 1 (by decide)).2.1 hS hown (hts _ w_sv.2.1) (fun _ h => h) hd kk
            · exact vk_getf hx hb (hE.2.2.2.2.2.1.1 2 (by decide)).2.1 hS hown (hts _ w_sv.2.1) (fun _ h => h) hd kk
          · cases h
    · cases h
  case putfield z =>
    have e := zl3 hn
    subst e
    simp only [zmem] at h
    split at h
    · rename_i x a r
      split at h
      · rename_i ci f hfr
        split at h
        · rename_i hc
          obtain ⟨hc, hk1, hw⟩ := hc
          obtain ⟨h7, hf2, hlk⟩ := fok hfr
          obtain ⟨fs, hs⟩ := zcls_at hc h7
          have hfl : f < fs.length := by have := hWf.2 _ _ hs; simp only [zWs] at this; omega
          have ho : fs[f]? = some none := by
            simp only [zfk, hs] at hk1
            cases hq : fs[f]? with
            | none => rw [hq] at hk1; simp at hk1
            | some o =>
              rw [hq] at hk1
              cases o with
              | none => rfl
              | some q => simp at hk1
          cases h
          have fin : ∀ (ty : FieldType), parseFieldDescriptor (zTc ci f).2.2.1 = some ty → (zTc ci f).2.2.2 = false → narrow ty (.int x) = .int x → fits ty (.int x) = true → W p l e R s m args below meth c H locs cells slots Q (F0 m pc ls ((Value.int x :: .ref a :: st').map (mv ad))) := by
            intro ty hty hfin hn2 hft
            refine va_put (D := D) hx hb hts (uws h7) (zTy ci) (zty_ok h7) (znm h7) hown hK hP hD hS a (mw_at hs) (zcl_at h7) f hf2 (hts _ hlk) (fun _ h => h) hfin hty hn2 hft (by simpa [mfs] using hfl) hd (fun H1 locs1 p1 p2 p3 => k H1 locs1 ?_)
            refine zWd_set hWf Wd hs (fun c hc => zr_n hc) (fun _ _ => rfl) ?_ p1 p2 p3
            simp only [mcl, zr_s]
            show Sum.inr (ci, mfs ad (upd (I a) f x) fs) = Sum.inr (ci, (mfs ad (I a) fs).set f (.int x))
            rw [mfs_set ho]
          rcases hw with hw | ⟨hw, hx01⟩
          · obtain ⟨q1, q2, -⟩ := fwk hw (Or.inl rfl)
            exact fin .int (q2 rfl) q1 rfl rfl
          · obtain ⟨q1, -, q2⟩ := fwk hw (Or.inr rfl)
            rcases hx01 with rfl | rfl
            · exact fin .boolean (q2 rfl) q1 (by decide) (by decide)
            · exact fin .boolean (q2 rfl) q1 (by decide) (by decide)
        · cases h
      · cases h
    · cases h
  case iaload =>
    have e := zl1 hn
    subst e
    simp only [zmem] at h
    split at h
    · rename_i j a r
      split at h
      · rename_i hc
        obtain ⟨hc, hix⟩ := hc
        cases h
        have kk := k H locs Wd
        rcases hc with hc | hc | hc
        · obtain ⟨q, hs, hq⟩ := zkd_at hWf hc (by omega)
          rw [hq] at hix
          exact va_iald hx hb hK hP a 0 (mw_at hs) rfl (vp_zix hix) hd kk
        · obtain ⟨rfl, hq⟩ := zkd_10 hWf hc
          rw [hq] at hix
          exact va_ti hx hb hE.2.1 hS (vp_zix hix) (by show Value.int (hf _) = Value.int (I 1000 _); rw [Wd.2.2.2.1]) hd kk
        · obtain ⟨rfl, hq⟩ := zkd_11 hWf hc
          rw [hq] at hix
          exact va_ti hx hb hE.2.2.1 hS (vp_zix hix) (by show Value.int (xf _) = Value.int (I 1004 _); rw [Wd.2.2.2.2]) hd kk
      · cases h
    · cases h
  case iastore =>
    have e := zl1 hn
    subst e
    simp only [zmem] at h
    split at h
    · rename_i x j a r
      split at h
      · rename_i hc
        obtain ⟨hc, hix⟩ := hc
        cases h
        obtain ⟨q, hs, hq⟩ := zkd_at hWf hc (by omega)
        rw [hq] at hix
        refine va_iast hx hb hK hP hD hS a 0 (mw_at hs) rfl (vp_zix hix) hd (fun H1 locs1 p1 p2 p3 => k H1 locs1 ?_)
        refine zWd_set hWf Wd hs (fun c hc => zr_n hc) (fun _ _ => rfl) ?_ p1 p2 p3
        simp [mcl, zr_s]
      · cases h
    · cases h
  case baload =>
    have e := zl1 hn
    subst e
    simp only [zmem] at h
    split at h
    · rename_i j a r
      split at h
      · rename_i hc
        obtain ⟨hc, hix⟩ := hc
        cases h
        have kk := k H locs Wd
        rcases hc with hc | hc
        · obtain ⟨q, hs, hq⟩ := zkd_at hWf hc (by omega)
          rw [hq] at hix
          have hv : zbv S I a j.toNatClampNeg = I a j.toNatClampNeg := if_neg (by omega)
          rw [hv] at kk
          exact va_zald hx hb hK hP a 2 (mw_at hs) rfl (vp_zix hix) hd kk
        · have hv : zbv S I a j.toNatClampNeg = zsb a j.toNatClampNeg := if_pos hc
          rw [hv] at kk
          rcases zkd_12 hWf hc with ⟨rfl, hq⟩ | ⟨rfl, hq⟩ | ⟨rfl, hq⟩
          · rw [hq] at hix
            exact va_tb hx hb (hE.2.2.2.2.2.1.1 0 (by decide)).2.2.2 hS (vp_zix hix) rfl hd kk
          · rw [hq] at hix
            exact va_tb hx hb (hE.2.2.2.2.2.1.1 1 (by decide)).2.2.2 hS (vp_zix hix) rfl hd kk
          · rw [hq] at hix
            exact va_tb hx hb (hE.2.2.2.2.2.1.1 2 (by decide)).2.2.2 hS (vp_zix hix) rfl hd kk
      · cases h
    · cases h
  case bastore =>
    have e := zl1 hn
    subst e
    simp only [zmem] at h
    split at h
    · rename_i x j a r
      split at h
      · rename_i hc
        obtain ⟨hc, hix, hx01⟩ := hc
        cases h
        obtain ⟨q, hs, hq⟩ := zkd_at hWf hc (by omega)
        rw [hq] at hix
        refine va_zast hx hb hK hP hD hS a 2 (mw_at hs) rfl (vp_zix hix) hd (fun H1 locs1 p1 p2 p3 => k H1 locs1 ?_)
        refine zWd_set hWf Wd hs (fun c hc => zr_n hc) (fun _ _ => rfl) ?_ p1 p2 p3
        have hnx : vp_nar .boolean x = x := by rcases hx01 with rfl | rfl <;> decide
        simp [mcl, zr_s, hnx]
      · cases h
    · cases h
  case laload =>
    have e := zl1 hn
    subst e
    simp only [zmem] at h
    split at h
    · rename_i j a r
      split at h
      · rename_i hc
        obtain ⟨hc, hix⟩ := hc
        cases h
        have kk := k H locs Wd
        obtain ⟨q, hs, hq⟩ := zkd_at hWf hc (by omega)
        rw [hq] at hix
        exact va_lald hx hb hK hP a 1 (mw_at hs) rfl (vp_zix hix) hd kk
      · cases h
    · cases h
  case lastore =>
    have e := zl1 hn
    subst e
    simp only [zmem] at h
    split at h
    · rename_i x j a r
      split at h
      · rename_i hc
        obtain ⟨hc, hix⟩ := hc
        cases h
        obtain ⟨q, hs, hq⟩ := zkd_at hWf hc (by omega)
        rw [hq] at hix
        refine va_last hx hb hK hP hD hS a 1 (mw_at hs) rfl (vp_zix hix) hd (fun H1 locs1 p1 p2 p3 => k H1 locs1 ?_)
        refine zWd_set hWf Wd hs (fun _ _ => rfl) (fun c hc => zr_n hc) ?_ p1 p2 p3
        simp [mcl, zr_s]
      · cases h
    · cases h
  case aaload =>
    have e := zl1 hn
    subst e
    simp only [zmem] at h
    split at h
    · rename_i j a r
      split at h
      · rename_i hc
        obtain ⟨hc, hix⟩ := hc
        cases h
        have kk := k H locs Wd
        have fin : ∀ (kd : Nat) (Cn : String), zkd S a = kd → (kd = 3 ∨ kd = 4) → (ztys ac)[kd]? = some (ac kd, .object Cn) → W p l e R s m args below meth c H locs cells slots Q (F0 m pc ls ((Value.int j :: .ref a :: r).map (mv ad))) := by
          intro kd Cn h1 h2 h3
          obtain ⟨q, hs, hq⟩ := zkd_ar hWf h1 h2
          rw [hq] at hix
          have hq9 := hWf.2 _ _ hs
          simp only [zWs] at hq9
          have hjl : j.toNatClampNeg < q.length := ixN_tn (n := q.length) hix (by omega)
          have hv : mv ad (zra S a j.toNatClampNeg) = va_rf ((q[j.toNatClampNeg]?).map ad) := by
            simp only [zra, hs]
            rw [List.getElem?_eq_getElem hjl]
            rfl
          rw [List.map_cons, hv] at kk
          exact va_aldq hx hb hK hP a kd (mw_at hs) h3 (vp_zix hix) hd kk
        rcases hc with hc | hc
        · exact fin 3 _ hc (Or.inl rfl) rfl
        · exact fin 4 _ hc (Or.inr rfl) rfl
      · cases h
    · cases h
  case arraylength =>
    have e := zl1 hn
    subst e
    simp only [zmem] at h
    split at h
    · rename_i a r
      split at h
      · cases h
      · rename_i hc
        cases h
        have kk := k H locs Wd
        cases hs : S.1[a]? with
        | none =>
          simp only [zkd, hs] at hc
          by_cases h1 : a = 1000
          · subst h1
            exact va_tlen hx hb hE.2.1 hS (by simp [zln, hs]) hd kk
          · by_cases h2 : a = 1004
            · subst h2
              exact va_tlen hx hb hE.2.2.1 hS (by simp [zln, hs]) hd kk
            · by_cases h3 : a = 1011
              · subst h3
                exact va_tlen hx hb (hE.2.2.2.2.2.1.1 0 (by decide)).2.2.2 hS (by simp [zln, hs]) hd kk
              · by_cases h4 : a = 1012
                · subst h4
                  exact va_tlen hx hb (hE.2.2.2.2.2.1.1 1 (by decide)).2.2.2 hS (by simp [zln, hs]) hd kk
                · by_cases h5 : a = 1013
                  · subst h5
                    exact va_tlen hx hb (hE.2.2.2.2.2.1.1 2 (by decide)).2.2.2 hS (by simp [zln, hs]) hd kk
                  · simp [h1, h2, h3, h4, h5] at hc
        | some sp =>
          rcases sp with ⟨ci, fs⟩ | ⟨kd, q⟩ | ⟨kd, q⟩
          · simp [zkd, hs] at hc
          · have hk2 := hWf.2 _ _ hs
            simp only [zWs] at hk2
            have hm := mw_at (ad := ad) (ac := ac) (I := I) (J := J) hs
            have hk3 : kd = 0 ∨ kd = 1 ∨ kd = 2 := by omega
            rcases hk3 with rfl | rfl | rfl
            · exact va_alen hx hb hK hP a 0 hm rfl (by simp [zln, hs]) hd kk
            · exact va_alen hx hb hK hP a 1 hm rfl (by simp [zln, hs]) hd kk
            · exact va_alen hx hb hK hP a 2 hm rfl (by simp [zln, hs]) hd kk
          · have hk2 := hWf.2 _ _ hs
            simp only [zWs] at hk2
            have hm := mw_at (ad := ad) (ac := ac) (I := I) (J := J) hs
            rcases hk2.1 with rfl | rfl
            · exact va_alen hx hb hK hP a 3 hm rfl (by simp [zln, hs]) hd kk
            · exact va_alen hx hb hK hP a 4 hm rfl (by simp [zln, hs]) hd kk
    · cases h
  case invokestatic z =>
    have e := zl3 hn
    subst e
    simp only [zmem] at h
    split at h
    · rename_i b a r hpr
      split at h
      · rename_i hc
        cases h
        have kk := k H locs Wd
        have hp := pok hpr (by decide)
        have h8 := hsum r hc.1
        exact va_mmax hx hb (by rw [hml]; exact hl.1.symm) hown (hts _ (hp.1 rfl)) (hts _ w_max.1) (hts _ w_mi) (hts _ w_max.2) (by omega) (by omega) hcs hss hd kk
      · cases h
    · rename_i b a r hpr
      split at h
      · rename_i hc
        cases h
        have kk := k H locs Wd
        have hp := pok hpr (by decide)
        have h8 := hsum r hc.1
        have emin : (if a ≤ b then a else b) = (if b < a then b else a) := by
          by_cases hlt : b < a
          · rw [if_pos hlt, if_neg (fun z => nlt32.mp z hlt)]
          · rw [if_neg hlt, if_pos (nlt32.mpr hlt)]
        rw [emin] at kk
        exact va_mmin hx hb (by rw [hml]; exact hl.1.symm) hown (hts _ (hp.2.1 rfl)) (hts _ w_min.1) (hts _ w_mi) (hts _ w_min.2) (by omega) (by omega) hcs hss hd kk
      · cases h
    · rename_i n dp q sp p0 r hpr
      split at h
      · rename_i hc
        obtain ⟨h8, hF1, hW1, hk1, hk2, hc1, hc2, hc3, hc4, hc5⟩ := hc
        have h8 := hsum r h8
        cases h
        have hp := pok hpr (by decide)
        obtain ⟨n1, hs1, hq1⟩ := zkd_at hWf hk1 (by omega)
        obtain ⟨n2, hs2, hq2⟩ := zkd_at hWf hk2 (by omega)
        rw [hq1] at hc4
        rw [hq2] at hc5
        refine va_copyi hx hb (by rw [hml]; exact hl.1.symm) hown (hts _ (hp.2.2 rfl)) (hts _ w_cp.1) (hts _ w_cp.2.1) (hts _ w_cp.2.2) hK hP hD hS p0 q 0 0 (mw_at hs1) (mw_at hs2) rfl rfl rfl hc1 hc2 hc3 hc4 hc5 (fun _ _ => rfl) (by omega) ?_ hd (fun H1 locs1 p1 p2 p3 => k H1 locs1 ?_)
        · have : nativeFrameWords "java/lang/System" "arraycopy" 5 = 7 := by decide
          omega
        · refine zWd_set hWf Wd hs2 (fun c hc => zr_n hc) (fun _ _ => rfl) ?_ p1 p2 p3
          simp [mcl, zr_s]
      · cases h
    · cases h
  all_goals (exact absurd h (by simp [zmem]))
end

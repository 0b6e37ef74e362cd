/-! ===== constructors: rows over fixed array classes ===== -/
section
variable {p : Program} {l : Launch} {e : Env} {R : Room} {s : State} {m : MethodId} {args : Array Value} {below : List Frame} {meth : Method} {c : Code} {H H0 : Heap} {locs : List Loc} {cells slots : Nat} {Q : State → Prop} {pc : Nat} {ls : Array Slot} {rest : List Value} {cc : ByteArray} {D : va_G} {ac : Nat → ClassId} {A : Nat → Prop} {ws : va_W}
theorem ct_newa (hexec : p.tables.exec = Jvm.exec) (hb : c.code = cc) {atype : ArrayType} (harr : (Cond.arrayClass (newarray.typeOf atype)).before args s = true) {ty : FieldType} (hty : newarray.typeOf atype = ty) (k : Nat) (hk : (ztys ac)[k]? = some (ac k, ty)) (hra : ∀ cA, va_RA s cA ty → s.vm.findClass ("[" ++ ty.toString) = some cA) (hK : va_K D zVC (ztys ac) s) (hP : va_P D zVC ws H) (hD : va_D A ws) (hS : va_S A H0 H locs) (hA : ∀ q, H0.size ≤ q → A q)
    {n : Int32} {N' : Nat} {a0 : vp_A} (ha : ∀ cA : ClassId, vp_cell cA a0 = arrV cA N' (fun _ => defaultValue ty)) (hn : ¬ n < 0) (hN : n.toNatClampNeg = N') (hbytes : N' * componentBytes ty ≤ 536870912) (hcells : cells + 1 ≤ R.cells) (hslots : slots + N' ≤ R.slots) (hdg : decode cc pc = .ok (.newarray atype, 2))
    (kk : ∀ (q : Nat) (H1 : Heap), va_P D zVC (ws ++ [(q, .inl (ac k, a0))]) H1 → va_D A (ws ++ [(q, .inl (ac k, a0))]) → va_S A H0 H1 locs →
      W p l e R s m args below meth c H1 locs (cells + 1) (slots + N') Q (F0 m (pc + 2) ls (.ref q :: rest))) : W p l e R s m args below meth c H locs cells slots Q (F0 m pc ls (.int n :: rest)) := by
  refine va_newa hexec hb harr hty hK hP hD hS hA ha hn hN hbytes hcells hslots hdg (fun q cA H1 hK1 hP1 hD1 hS1 => ?_)
  have h1 := hra cA (hK1.2 5 (cA, ty) rfl).2
  have h2 := hra (ac k) (hK.2 k _ hk).2
  have e : cA = ac k := Option.some.inj (h1.symm.trans h2)
  subst e
  exact kk q H1 hP1 hD1 hS1
theorem ct_newi (hexec : p.tables.exec = Jvm.exec) (hb : c.code = cc) (hts : ∀ w ∈ zT, w.before args s = true) (hK : va_K D zVC (ztys ac) s) (hP : va_P D zVC ws H) (hD : va_D A ws) (hS : va_S A H0 H locs) (hA : ∀ q, H0.size ≤ q → A q)
    {n : Int32} (N' : Nat) (hn : ¬ n < 0) (hN : n.toNatClampNeg = N') (hbytes : N' ≤ 1000) (hcells : cells + 1 ≤ R.cells) (hslots : slots + N' ≤ R.slots) (hdg : decode cc pc = .ok (.newarray .int, 2))
    (kk : ∀ (q : Nat) (H1 : Heap), va_P D zVC (ws ++ [(q, .inl (ac 0, N', .inl fun _ => 0))]) H1 → va_D A (ws ++ [(q, .inl (ac 0, N', .inl fun _ => 0))]) → va_S A H0 H1 locs →
      W p l e R s m args below meth c H1 locs (cells + 1) (slots + N') Q (F0 m (pc + 2) ls (.ref q :: rest))) : W p l e R s m args below meth c H locs cells slots Q (F0 m pc ls (.int n :: rest)) :=
  ct_newa (atype := .int) (ty := .int) (a0 := (N', .inl fun _ => 0)) hexec hb (hts (.arrayClass .int) (zin 109 (by decide +kernel) (by decide +kernel))) rfl 0 rfl (fun _ h => h) hK hP hD hS hA (fun _ => rfl) hn hN (by show N' * 4 ≤ _; omega) hcells hslots hdg kk
theorem ct_newz (hexec : p.tables.exec = Jvm.exec) (hb : c.code = cc) (hts : ∀ w ∈ zT, w.before args s = true) (hK : va_K D zVC (ztys ac) s) (hP : va_P D zVC ws H) (hD : va_D A ws) (hS : va_S A H0 H locs) (hA : ∀ q, H0.size ≤ q → A q)
    {n : Int32} (N' : Nat) (hn : ¬ n < 0) (hN : n.toNatClampNeg = N') (hbytes : N' ≤ 1000) (hcells : cells + 1 ≤ R.cells) (hslots : slots + N' ≤ R.slots) (hdg : decode cc pc = .ok (.newarray .boolean, 2))
    (kk : ∀ (q : Nat) (H1 : Heap), va_P D zVC (ws ++ [(q, .inl (ac 2, N', .inl fun _ => 0))]) H1 → va_D A (ws ++ [(q, .inl (ac 2, N', .inl fun _ => 0))]) → va_S A H0 H1 locs →
      W p l e R s m args below meth c H1 locs (cells + 1) (slots + N') Q (F0 m (pc + 2) ls (.ref q :: rest))) : W p l e R s m args below meth c H locs cells slots Q (F0 m pc ls (.int n :: rest)) :=
  ct_newa (atype := .boolean) (ty := .boolean) (a0 := (N', .inl fun _ => 0)) hexec hb (hts (.arrayClass .boolean) (zin 906 (by decide +kernel) (by decide +kernel))) rfl 2 rfl (fun _ h => h) hK hP hD hS hA (fun _ => rfl) hn hN (by show N' * 1 ≤ _; omega) hcells hslots hdg kk
theorem ct_newl (hexec : p.tables.exec = Jvm.exec) (hb : c.code = cc) (hts : ∀ w ∈ zT, w.before args s = true) (hK : va_K D zVC (ztys ac) s) (hP : va_P D zVC ws H) (hD : va_D A ws) (hS : va_S A H0 H locs) (hA : ∀ q, H0.size ≤ q → A q)
    {n : Int32} (N' : Nat) (hn : ¬ n < 0) (hN : n.toNatClampNeg = N') (hbytes : N' ≤ 1000) (hcells : cells + 1 ≤ R.cells) (hslots : slots + N' ≤ R.slots) (hdg : decode cc pc = .ok (.newarray .long, 2))
    (kk : ∀ (q : Nat) (H1 : Heap), va_P D zVC (ws ++ [(q, .inl (ac 1, N', .inr (.inl fun _ => 0)))]) H1 → va_D A (ws ++ [(q, .inl (ac 1, N', .inr (.inl fun _ => 0)))]) → va_S A H0 H1 locs →
      W p l e R s m args below meth c H1 locs (cells + 1) (slots + N') Q (F0 m (pc + 2) ls (.ref q :: rest))) : W p l e R s m args below meth c H locs cells slots Q (F0 m pc ls (.int n :: rest)) :=
  ct_newa (atype := .long) (ty := .long) (a0 := (N', .inr (.inl fun _ => 0))) hexec hb (hts (.arrayClass .long) (zin 321 (by decide +kernel) (by decide +kernel))) rfl 1 rfl (fun _ h => h) hK hP hD hS hA (fun _ => rfl) hn hN (by show N' * 8 ≤ _; omega) hcells hslots hdg kk
theorem ct_newq (hexec : p.tables.exec = Jvm.exec) (hb : c.code = cc) {own C : String} {index : Nat} (hown : s.vm.findClass own = some m.cls) (hclink : (Cond.classLink own index C).before args s = true) (hover : va_AO C s) (k : Nat) (hk : (ztys ac)[k]? = some (ac k, .object C)) (hK : va_K D zVC (ztys ac) s) (hP : va_P D zVC ws H) (hD : va_D A ws) (hS : va_S A H0 H locs) (hA : ∀ q, H0.size ≤ q → A q)
    {n : Int32} (N' : Nat) (hn : ¬ n < 0) (hN : n.toNatClampNeg = N') (hbytes : N' * 4 ≤ 536870912) (hcells : cells + 1 ≤ R.cells) (hslots : slots + N' ≤ R.slots) (hdg : decode cc pc = .ok (.anewarray index, 3))
    (kk : ∀ (q : Nat) (H1 : Heap), va_P D zVC (ws ++ [(q, .inl (ac k, N', .inr (.inr (.inr (.inr (fun _ => none))))))]) H1 → va_D A (ws ++ [(q, .inl (ac k, N', .inr (.inr (.inr (.inr (fun _ => none))))))]) → va_S A H0 H1 locs →
      W p l e R s m args below meth c H1 locs (cells + 1) (slots + N') Q (F0 m (pc + 3) ls (.ref q :: rest))) : W p l e R s m args below meth c H locs cells slots Q (F0 m pc ls (.int n :: rest)) := by
  refine va_newq hexec hb hown hclink hover hK hP hD hS hA hn hN hbytes hcells hslots hdg (fun q cA H1 hK1 hP1 hD1 hS1 => ?_)
  obtain ⟨-, -, -, -, -, h1⟩ := (hK1.2 5 (cA, .object C) rfl).2
  obtain ⟨-, -, -, -, -, h2⟩ := (hK.2 k _ hk).2
  have e : cA = ac k := Option.some.inj (h1.symm.trans h2)
  subst e
  exact kk q H1 hP1 hD1 hS1
theorem ct_put (hexec : p.tables.exec = Jvm.exec) (hb : c.code = cc) (hts : ∀ w ∈ zT, w.before args s = true) (hin2 : meth.name = "<init>") {c0 : Nat} (hown : s.vm.findClass (zRn c0) = some m.cls) (hK : va_K D zVC (ztys ac) s) (hP : va_P D zVC ws H) (hD : va_D A ws) (hS : va_S A H0 H locs) (q0 : Nat) {a ci k index : Nat} {fs : List Value} {v : Value} (he : ws[q0]? = some (a, .inr (ci, fs))) (hfr : zfr c0 index = some (ci, k)) (hdecl : (zTc ci k).1 = zRn c0) {ty : FieldType} (hd : parseFieldDescriptor (zTc ci k).2.2.1 = some ty) (hn : narrow ty v = v) (hfit : fits ty v = true) (hl : k < fs.length)
    (hdg : decode cc pc = .ok (.putfield index, 3)) (kk : ∀ (H1 : Heap) (locs1 : List Loc), va_P D zVC (ws.set q0 (a, .inr (ci, fs.set k v))) H1 → va_D A (ws.set q0 (a, .inr (ci, fs.set k v))) → va_S A H0 H1 locs1 → W p l e R s m args below meth c H1 locs1 cells slots Q (F0 m (pc + 3) ls rest)) : W p l e R s m args below meth c H locs cells slots Q (F0 m pc ls (v :: .ref a :: rest)) := by
  obtain ⟨h7, hf2, hlk⟩ := fok hfr
  cases hfin : (zTc ci k).2.2.2 with
  | true => exact va_putF (D := D) hexec hb hts (uws h7) (zTy ci) (zty_ok h7) (znm h7) hown hK hP hD hS q0 he (zcl_at h7) k hf2 (hts _ hlk) (fun _ h => h) hfin hin2 hdecl hd hn hfit hl hdg kk
  | false => exact va_put (D := D) hexec hb hts (uws h7) (zTy ci) (zty_ok h7) (znm h7) hown hK hP hD hS q0 he (zcl_at h7) k hf2 (hts _ hlk) (fun _ h => h) hfin hd hn hfit hl hdg kk
/-- a start, an end of a constructor or of what it calls -/
abbrev ctPre (ac : Nat → ClassId) (D : va_G) (E : State → Prop) (sz : Nat) (w0 : va_W) (U : State) : Prop := U.heap.size = sz ∧ va_P D zVC w0 U.heap ∧ va_K D zVC (ztys ac) U ∧ va_D (fun _ => True) w0 ∧ E U
abbrev ctQ (D : va_G) (sz : Nat) (w0 : va_W) (w1 : (Nat → Nat) → va_W) : Array Value → State → Outcome → State → Prop := va_Qv (fun _ : Nat → Nat => True) (fun a t => va_P D zVC (w1 a) t.heap ∧ va_D (va_A w0 sz) (w1 a)) (va_A w0 sz)
def ctE (E : State → Prop) : Prop := (∀ u U : State, u.vm = U.vm → E u → E U) ∧ (∀ u U : State, u.WarmedH U.vm → E u → E U)
theorem ct_pre {E : State → Prop} {w0 : va_W} {av : List Value} (hE : ctE E) (hs : E s) (hP : va_P D zVC w0 H) (hK : va_K D zVC (ztys ac) s) (hD : va_D A w0) : FrameBlind (va_Pc av (ctPre ac D E H.size w0)) ∧ ∀ U : State, U.heap = H → s.WarmedH U.vm → va_Pc av (ctPre ac D E H.size w0) av.toArray U := by
  refine ⟨fun a U g mk q => ?_, fun U hU hW => ?_⟩
  · obtain ⟨q0, q1, qP, qK, qD, qE⟩ := q
    exact ⟨q0, q1, qP, va_K.moved (u := U) (U := U.calling g mk a) (Vm.Alike.refl U.vm) qK, qD, hE.1 U _ rfl qE⟩
  · exact ⟨rfl, by rw [hU], by rw [hU]; exact hP, va_K.moved hW.alike hK, hD.weaken (fun _ _ _ _ => trivial), hE.2 s U hW hs⟩
theorem ct_call {mc ms : Nat} {st0 : List Value} {a0 : Array Value} {w0 wr : va_W} {w1 : (Nat → Nat) → va_W} (hr : va_Run p l e R s m args below meth c H locs cells slots mc ms (F0 m pc ls st0) rest (ctQ D H.size w0 w1 a0) (va_A w0 H.size)) (hP : va_P D zVC ws H) (hD : va_D A ws) (hS : va_S A H0 H locs) (hA : ∀ q, H0.size ≤ q → A q) (isC isR : List Nat) (hC : isC.map (fun i => ws[i]?) = w0.map some) (hR : isR.map (fun i => ws[i]?) = wr.map some) (hn : va_nd isR = true) (hdis : ∀ i ∈ isR, i ∉ isC)
    (kk : ∀ (a : Nat → Nat) (H1 : Heap) (locs1 : List Loc), va_P D zVC (wr ++ w1 a) H1 → va_D A (wr ++ w1 a) → va_S A H0 H1 locs1 → W p l e R s m args below meth c H1 locs1 (cells + mc) (slots + ms) Q (F0 m (pc + 3) ls rest)) : W p l e R s m args below meth c H locs cells slots Q (F0 m pc ls st0) := by
  have hFc := va_free (wc := w0) hD hS hA isC hC
  refine va_callv hr hS (fun q _ h => hFc q h) hFc (fun a t H1 locs1 ht hvm hw hB hz1 hk1 hS1 => ?_)
  obtain ⟨hP1, hD1⟩ := hB
  rw [ht] at hP1
  obtain ⟨hP2, hD2⟩ := va_join (wr := wr) (w1 := w1 a) hP hD isC isR hC hR hn hdis hk1 hFc hP1 hD1
  exact kk a H1 locs1 hP2 hD2 hS1
theorem ct_true : ctE (fun _ => True) := ⟨fun _ _ _ h => h, fun _ _ _ h => h⟩
theorem ct_code {y : MethodName} {bytes : ByteArray} {maxL : Nat} {ret : Option FieldType} (h : Cond.code y bytes maxL ret ∈ zT) : GoodIn zT (Cond.code y bytes maxL ret :: zT) := zgood (fun w hw => by
  rcases List.mem_cons.mp hw with rfl | hw
  · exact h
  · exact hw)
theorem arr_eq {cA : ClassId} {n : Nat} {f g : Nat → Int32} (h : ∀ j, j < n → f j = g j) : vp_cell cA (n, .inl f) = vp_cell cA (n, .inl g) := by
  rw [vp_cell_i, vp_cell_i]
  unfold arrV
  congr 1
  congr 1
  funext j
  show Value.int (f j.1) = Value.int (g j.1)
  rw [h j.1 j.2]
end

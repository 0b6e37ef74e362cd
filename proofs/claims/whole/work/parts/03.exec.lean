/-! ===== a small machine over a fixed shape of cells: what a method of the system does, as a function; its rows; (its truth over the big machine: a later part) ===== -/
abbrev zSp : Type := (Nat × List (Option Nat)) ⊕ ((Nat × Nat) ⊕ (Nat × List Nat))
abbrev zSg : Type := List zSp × Nat
abbrev zI : Type := Nat → Nat → Int32
abbrev zJ : Type := Nat → Nat → Int64
abbrev zQ : Type := Option Value → zI → zJ → Prop
def zr {α : Type} (I : Nat → Nat → α) (c : Nat) (f : Nat → α) : Nat → Nat → α := fun k => if k = c then f else I k
def zcls (S : zSg) (a : Nat) : Nat := match S.1[a]? with
  | some (.inl (ci, _)) => ci
  | some _ => 99
  | none => if a = 1001 ∨ a = 1002 ∨ a = 1003 then 10 else 99
def zkd (S : zSg) (a : Nat) : Nat := match S.1[a]? with
  | some (.inr (.inl (k, _))) => k
  | some (.inr (.inr (k, _))) => k
  | some (.inl _) => 99
  | none => if a = 1000 then 10 else if a = 1004 then 11 else if a = 1011 ∨ a = 1012 ∨ a = 1013 then 12 else 99
def zln (S : zSg) (a : Nat) : Nat := match S.1[a]? with
  | some (.inr (.inl (_, n))) => n
  | some (.inr (.inr (_, l))) => l.length
  | some (.inl _) => 0
  | none => if a = 1000 then 3 else if a = 1004 then S.2 else if a = 1011 ∨ a = 1012 then 3 else if a = 1013 then 6 else 0
def zbv (S : zSg) (I : zI) (a j : Nat) : Int32 := if zkd S a = 12 then zsb a j else I a j
def zgf (S : zSg) (I : zI) (a k : Nat) : Value := match S.1[a]? with
  | some (.inl (_, fs)) => (match fs[k]? with
    | some none => .int (I a k)
    | some (some q) => .ref q
    | none => .null)
  | _ => .null
/-- 1: a field of whole numbers -/
def zfk (S : zSg) (a k : Nat) : Nat := match S.1[a]? with
  | some (.inl (_, fs)) => (match fs[k]? with
    | some none => 1
    | _ => 0)
  | _ => 0
def zra (S : zSg) (a j : Nat) : Value := match S.1[a]? with
  | some (.inr (.inr (_, l))) => (match l[j]? with
    | some q => .ref q
    | none => .null)
  | _ => .null
abbrev zix (i : Int32) (n : Nat) : Prop := 0 ≤ i.toInt ∧ i.toInt < n
def zkl (v : Value) : Value := match v with
  | .long _ => .null
  | .double _ => .null
  | w => w
def zpL (L : List Value) (i : Nat) (v : Value) : List Value := match i with
  | 0 => L.set 0 v
  | k + 1 => (L.set (k + 1) v).modify k zkl
def zpL2 (L : List Value) (i : Nat) (v : Value) : List Value := (zpL L i v).set (i + 1) .null
def zcs (st : List Value) : Nat := (st.map fun v => v.category).sum
def zfl : List Value → List Value
  | [] => []
  | .long x :: r => .long x :: .null :: zfl r
  | .double x :: r => .double x :: .null :: zfl r
  | v :: r => v :: zfl r
def zent (n : Nat) (as : List Value) : List Value := zfl as ++ List.replicate (n - (zfl as).length) .null
/-- how long an instruction is (0: its own length tells) -/
def zlen (i : Instr) : Nat := match i with
  | .bipush _ => 2
  | .sipush _ => 3
  | .ldc _ => 2
  | .ldc_w _ => 3
  | .ldc2_w _ => 3
  | .getstatic _ => 3
  | .getfield _ => 3
  | .putfield _ => 3
  | .iload _ => 2
  | .lload _ => 2
  | .aload _ => 2
  | .istore _ => 2
  | .lstore _ => 2
  | .astore _ => 2
  | .iinc _ _ => 3
  | .goto _ => 3
  | .ifCond _ _ => 3
  | .if_icmp _ _ => 3
  | .invokevirtual _ => 3
  | .invokestatic _ => 3
  | .invokespecial _ => 3
  | .new _ => 3
  | .anewarray _ => 3
  | .newarray _ => 2
  | .tableswitch _ _ _ _ => 0
  | .lookupswitch _ _ => 0
  | _ => 1
def zft (y pc : Nat) : Option (Instr × Nat) := match decode (zB y) pc with
  | .ok (i, n) => if zlen i = 0 ∨ zlen i = n then some (i, n) else none
  | .error _ => none
theorem fet {y pc n : Nat} {i : Instr} {cc : ByteArray} (h : zB y = cc) (d : decode cc pc = .ok (i, n)) (hl : zlen i = 0 ∨ zlen i = n) : zft y pc = some (i, n) := by
  simp only [zft, h, d]
  exact if_pos hl
def ztg (pc : Nat) (off : Int) : Option Nat := match (pc : Int) + off with
  | .ofNat t => some t
  | .negSucc _ => none
/-- instructions of the stack alone -/
def zstk (y : Nat) (i : Instr) (st : List Value) : Option (List Value) := match i with
  | .iconst n => some (.int (Int32.ofInt n) :: st)
  | .bipush n => some (.int (Int8.ofInt n).toInt32 :: st)
  | .sipush n => some (.int (Int16.ofInt n).toInt32 :: st)
  | .lconst n => some (.long (Int64.ofNat (n : Nat)) :: st)
  | .ldc k => (zkI (zC y) k).map (fun v => .int v :: st)
  | .ldc_w k => (zkI (zC y) k).map (fun v => .int v :: st)
  | .ldc2_w k => (zkL (zC y) k).map (fun v => .long v :: st)
  | .getstatic k => if zgs (zC y) k = 1 ∨ zgs (zC y) k = 2 then some (.ref 1000 :: st) else if zgs (zC y) k = 3 then some (.int 1 :: st) else none
  | .iadd => match st with
    | .int b :: .int a :: r => some (.int (a + b) :: r)
    | _ => none
  | .isub => match st with
    | .int b :: .int a :: r => some (.int (a - b) :: r)
    | _ => none
  | .imul => match st with
    | .int b :: .int a :: r => some (.int (a * b) :: r)
    | _ => none
  | .iand => match st with
    | .int b :: .int a :: r => some (.int (a &&& b) :: r)
    | _ => none
  | .ior => match st with
    | .int b :: .int a :: r => some (.int (a ||| b) :: r)
    | _ => none
  | .ishl => match st with
    | .int b :: .int a :: r => some (.int (a <<< (b &&& 31)) :: r)
    | _ => none
  | .ishr => match st with
    | .int b :: .int a :: r => some (.int (a >>> (b &&& 31)) :: r)
    | _ => none
  | .iushr => match st with
    | .int b :: .int a :: r => some (.int (a.toUInt32 >>> (b.toUInt32 &&& Int32.toUInt32 31)).toInt32 :: r)
    | _ => none
  | .idiv => match st with
    | .int b :: .int a :: r => if b = 0 then none else some (.int (a / b) :: r)
    | _ => none
  | .irem => match st with
    | .int b :: .int a :: r => if b = 0 then none else some (.int (a - a / b * b) :: r)
    | _ => none
  | .ladd => match st with
    | .long b :: .long a :: r => some (.long (a + b) :: r)
    | _ => none
  | .lsub => match st with
    | .long b :: .long a :: r => some (.long (a - b) :: r)
    | _ => none
  | .lmul => match st with
    | .long b :: .long a :: r => some (.long (a * b) :: r)
    | _ => none
  | .ldiv => match st with
    | .long b :: .long a :: r => if b = 0 then none else some (.long (a / b) :: r)
    | _ => none
  | .lrem => match st with
    | .long b :: .long a :: r => if b = 0 then none else some (.long (a - a / b * b) :: r)
    | _ => none
  | .lshl => match st with
    | .int b :: .long a :: r => some (.long (a <<< (b.toInt64 &&& 63)) :: r)
    | _ => none
  | .lcmp => match st with
    | .long b :: .long a :: r => some (.int (lg_cmp a b) :: r)
    | _ => none
  | .i2l => match st with
    | .int a :: r => some (.long a.toInt64 :: r)
    | _ => none
  | .i2b => match st with
    | .int a :: r => some (.int a.toInt8.toInt32 :: r)
    | _ => none
  | .i2s => match st with
    | .int a :: r => some (.int a.toInt16.toInt32 :: r)
    | _ => none
  | .i2c => match st with
    | .int a :: r => some (.int (a.toUInt32 % 65536).toInt32 :: r)
    | _ => none
  | .dup => match st with
    | .int a :: r => some (.int a :: .int a :: r)
    | .ref a :: r => some (.ref a :: .ref a :: r)
    | _ => none
  | .dup2 => match st with
    | .int b :: .ref a :: r => some (.int b :: .ref a :: .int b :: .ref a :: r)
    | _ => none
  | .pop => match st with
    | .int _ :: r => some r
    | .ref _ :: r => some r
    | _ => none
  | _ => none
/-- locals -/
def zlcl (i : Instr) (L st : List Value) : Option (List Value × List Value) := match i with
  | .iload k => match L[k]? with
    | some (.int x) => some (L, .int x :: st)
    | _ => none
  | .iload_n k => match L[(k : Nat)]? with
    | some (.int x) => some (L, .int x :: st)
    | _ => none
  | .lload k => match L[k]? with
    | some (.long x) => some (L, .long x :: st)
    | _ => none
  | .lload_n k => match L[(k : Nat)]? with
    | some (.long x) => some (L, .long x :: st)
    | _ => none
  | .aload k => match L[k]? with
    | some (.ref x) => some (L, .ref x :: st)
    | _ => none
  | .aload_n k => match L[(k : Nat)]? with
    | some (.ref x) => some (L, .ref x :: st)
    | _ => none
  | .istore k => match st with
    | .int x :: r => if k < L.length then some (zpL L k (.int x), r) else none
    | _ => none
  | .istore_n k => match st with
    | .int x :: r => if (k : Nat) < L.length then some (zpL L (k : Nat) (.int x), r) else none
    | _ => none
  | .astore k => match st with
    | .ref x :: r => if k < L.length then some (zpL L k (.ref x), r) else none
    | _ => none
  | .astore_n k => match st with
    | .ref x :: r => if (k : Nat) < L.length then some (zpL L (k : Nat) (.ref x), r) else none
    | _ => none
  | .lstore k => match st with
    | .long x :: r => if k + 1 < L.length then some (zpL2 L k (.long x), r) else none
    | _ => none
  | .lstore_n k => match st with
    | .long x :: r => if (k : Nat) + 1 < L.length then some (zpL2 L (k : Nat) (.long x), r) else none
    | _ => none
  | .iinc k n => match L[k]? with
    | some (.int x) => some (zpL L k (.int (x + Int32.ofInt n)), st)
    | _ => none
  | _ => none
def zif (c : ClassFile.Cond) (x : Int32) : Bool := match c with
  | .eq => decide (x = 0)
  | .ne => decide (¬ x = 0)
  | .lt => decide (x < 0)
  | .ge => decide (0 ≤ x)
  | .gt => decide (0 < x)
  | .le => decide (x ≤ 0)
def zic (c : ClassFile.Cond) (x y : Int32) : Bool := match c with
  | .eq => decide (x = y)
  | .ne => decide (¬ x = y)
  | .lt => decide (x < y)
  | .ge => decide (y ≤ x)
  | .gt => decide (y < x)
  | .le => decide (x ≤ y)
/-- jumps: the next place -/
def zbr (i : Instr) (pc n : Nat) (st : List Value) : Option (Nat × List Value) := match i with
  | .goto off => (ztg pc off).map (fun t => (t, st))
  | .ifCond c off => match st, ztg pc off with
    | .int x :: r, some t => some (if zif c x = true then t else pc + n, r)
    | _, _ => none
  | .if_icmp c off => match st, ztg pc off with
    | .int b :: .int a :: r, some t => some (if zic c a b = true then t else pc + n, r)
    | _, _ => none
  | .tableswitch d lo hi offs => match st with
    | .int x :: r => if x.toInt < lo ∨ hi < x.toInt then (ztg pc d).map (fun t => (t, r)) else match offs[(x.toInt - lo).toNat]? with
      | some o => (ztg pc o).map (fun t => (t, r))
      | none => none
    | _ => none
  | .lookupswitch d ps => match st with
    | .int x :: r => if (ps.toList.zip (ps.toList.drop 1)).all (fun (a, next) => a.1 < next.1) = true then (ztg pc (Op.lookupswitch.offset ps.toList d x.toInt)).map (fun t => (t, r)) else none
    | _ => none
  | _ => none
/-- cells -/
def zmem (S : zSg) (y : Nat) (i : Instr) (st : List Value) (I : zI) (J : zJ) : Option (List Value × zI × zJ) := match i with
  | .getfield k => match st with
    | .ref a :: r => match zfr (zC y) k with
      | some (ci, f) => if zcls S a = ci then some (zgf S I a f :: r, I, J) else none
      | none => if zcls S a = 10 ∧ zsf (zC y) k = 1 then some (.ref (a + 10) :: r, I, J) else if zcls S a = 10 ∧ zsf (zC y) k = 2 then some (.int 0 :: r, I, J) else none
    | _ => none
  | .putfield k => match st with
    | .int x :: .ref a :: r => match zfr (zC y) k with
      | some (ci, f) => if zcls S a = ci ∧ zfk S a f = 1 ∧ (zfw ci f = 1 ∨ (zfw ci f = 2 ∧ (x = 0 ∨ x = 1))) then some (r, zr I a (upd (I a) f x), J) else none
      | none => none
    | _ => none
  | .iaload => match st with
    | .int i :: .ref a :: r => if (zkd S a = 0 ∨ zkd S a = 10 ∨ zkd S a = 11) ∧ zix i (zln S a) then some (.int (I a i.toNatClampNeg) :: r, I, J) else none
    | _ => none
  | .iastore => match st with
    | .int x :: .int i :: .ref a :: r => if zkd S a = 0 ∧ zix i (zln S a) then some (r, zr I a (upd (I a) i.toNatClampNeg x), J) else none
    | _ => none
  | .baload => match st with
    | .int i :: .ref a :: r => if (zkd S a = 2 ∨ zkd S a = 12) ∧ zix i (zln S a) then some (.int (zbv S I a i.toNatClampNeg) :: r, I, J) else none
    | _ => none
  | .bastore => match st with
    | .int x :: .int i :: .ref a :: r => if zkd S a = 2 ∧ zix i (zln S a) ∧ (x = 0 ∨ x = 1) then some (r, zr I a (upd (I a) i.toNatClampNeg x), J) else none
    | _ => none
  | .laload => match st with
    | .int i :: .ref a :: r => if zkd S a = 1 ∧ zix i (zln S a) then some (.long (J a i.toNatClampNeg) :: r, I, J) else none
    | _ => none
  | .lastore => match st with
    | .long x :: .int i :: .ref a :: r => if zkd S a = 1 ∧ zix i (zln S a) then some (r, I, zr J a (vp_updL (J a) i.toNatClampNeg x)) else none
    | _ => none
  | .aaload => match st with
    | .int i :: .ref a :: r => if (zkd S a = 3 ∨ zkd S a = 4) ∧ zix i (zln S a) then some (zra S a i.toNatClampNeg :: r, I, J) else none
    | _ => none
  | .arraylength => match st with
    | .ref a :: r => if zkd S a = 99 then none else some (.int (Int32.ofNat (zln S a)) :: r, I, J)
    | _ => none
  | .invokestatic k => match zpr (zC y) k, st with
    | 1, .int b :: .int a :: r => if zcs r ≤ 8 ∧ 1 ≤ zF y ∧ 21 ≤ zW y then some (.int (if a < b then b else a) :: r, I, J) else none
    | 2, .int b :: .int a :: r => if zcs r ≤ 8 ∧ 1 ≤ zF y ∧ 21 ≤ zW y then some (.int (if a ≤ b then a else b) :: r, I, J) else none
    | 3, .int n :: .int dp :: .ref q :: .int sp :: .ref p :: r => if zcs r ≤ 8 ∧ 1 ≤ zF y ∧ 26 ≤ zW y ∧ zkd S p = 0 ∧ zkd S q = 0 ∧ ¬ sp < 0 ∧ ¬ dp < 0 ∧ ¬ n < 0 ∧ sp.toNatClampNeg + n.toNatClampNeg ≤ zln S p ∧ dp.toNatClampNeg + n.toNatClampNeg ≤ zln S q then some (r, zr I q (va_cpy (I p) (I q) sp.toNatClampNeg dp.toNatClampNeg n.toNatClampNeg), J) else none
    | _, _ => none
  | _ => none
def zrt (y : Nat) (i : Instr) (st : List Value) : Option (Option Value) := match i, st with
  | .return_, [] => if zZ y = 0 then some none else none
  | .ireturn, [.int x] => if zZ y = 1 ∨ ((zZ y = 3 ∨ zZ y = 4) ∧ (x = 0 ∨ x = 1)) then some (some (.int x)) else none
  | .lreturn, [.long x] => if zZ y = 2 then some (some (.long x)) else none
  | _, _ => none
def zrok (y z : Nat) : Bool := decide (zF z + 1 ≤ zF y ∧ zW z + (zL z + 19) ≤ zW y)
def zcal (S : zSg) (y : Nat) (i : Instr) (st : List Value) : Option (Nat × List Value × List Value) := match i with
  | .invokevirtual k => match zct (zC y) k with
    | some (0, z) => (match st.drop (zN z) with
      | .ref a :: r => if zN z ≤ st.length ∧ zcls S a = zC z ∧ zcs r ≤ 8 ∧ zrok y z = true ∧ (zfl (.ref a :: (st.take (zN z)).reverse)).length ≤ zL z then some (z, .ref a :: (st.take (zN z)).reverse, r) else none
      | _ => none)
    | _ => none
  | .invokestatic k => match zct (zC y) k with
    | some (1, z) => if zN z ≤ st.length ∧ zcs (st.drop (zN z)) ≤ 8 ∧ zrok y z = true ∧ (zfl (st.take (zN z)).reverse).length ≤ zL z then some (z, (st.take (zN z)).reverse, st.drop (zN z)) else none
    | _ => none
  | _ => none
/-- one step: a next state, an end, or a call -/
abbrev zNx : Type := (Nat × List Value × List Value × zI × zJ) ⊕ (Option Value ⊕ (Nat × List Value × List Value × Nat))
def zst4 (S : zSg) (y pc n : Nat) (i : Instr) (st : List Value) : Option zNx := match zrt y i st with
  | some v => some (.inr (.inl v))
  | none => match zcal S y i st with
    | some (z, as, r) => some (.inr (.inr (z, as, r, pc + n)))
    | none => none
def zst3 (S : zSg) (y pc n : Nat) (i : Instr) (L st : List Value) (I : zI) (J : zJ) : Option zNx := match zmem S y i st I J with
  | some (st', I', J') => some (.inl (pc + n, L, st', I', J'))
  | none => zst4 S y pc n i st
def zst2 (S : zSg) (y pc n : Nat) (i : Instr) (L st : List Value) (I : zI) (J : zJ) : Option zNx := match zbr i pc n st with
  | some (pc', st') => some (.inl (pc', L, st', I, J))
  | none => zst3 S y pc n i L st I J
def zst1 (S : zSg) (y pc n : Nat) (i : Instr) (L st : List Value) (I : zI) (J : zJ) : Option zNx := match zlcl i L st with
  | some (L', st') => some (.inl (pc + n, L', st', I, J))
  | none => zst2 S y pc n i L st I J
def zst0 (S : zSg) (y pc n : Nat) (i : Instr) (L st : List Value) (I : zI) (J : zJ) : Option zNx := match zstk y i st with
  | some st' => some (.inl (pc + n, L, st', I, J))
  | none => zst1 S y pc n i L st I J
def zstp (S : zSg) (y pc : Nat) (L st : List Value) (I : zI) (J : zJ) : Option zNx := match zft y pc with
  | none => none
  | some (i, n) => zst0 S y pc n i L st I J
def zex (S : zSg) : Nat → Nat → Nat → List Value → List Value → zI → zJ → Option (Option Value × zI × zJ)
  | 0, _, _, _, _, _, _ => none
  | f + 1, y, pc, L, st, I, J => match zstp S y pc L st I J with
    | none => none
    | some (.inl (pc', L', st', I', J')) => zex S f y pc' L' st' I' J'
    | some (.inr (.inl v)) => some (v, I, J)
    | some (.inr (.inr (z, as, r, pc'))) => match zex S f z 0 (zent (zL z) as) [] I J with
      | none => none
      | some (v, I', J') => zex S f y pc' L (v.toList ++ r) I' J'
def Rn (S : zSg) (y pc : Nat) (L st : List Value) (I : zI) (J : zJ) (Q : zQ) : Prop := ∃ f v I' J', zex S f y pc L st I J = some (v, I', J') ∧ Q v I' J'
theorem zex_mono (S : zSg) : ∀ (f y pc : Nat) (L st : List Value) (I : zI) (J : zJ) (x : Option Value × zI × zJ), zex S f y pc L st I J = some x → zex S (f + 1) y pc L st I J = some x := by
  intro f
  induction f with
  | zero => intro y pc L st I J x h; simp [zex] at h
  | succ f ih =>
    intro y pc L st I J x h
    rw [zex] at h ⊢
    cases hs : zstp S y pc L st I J with
    | none => rw [hs] at h; simp at h
    | some n =>
      rw [hs] at h
      rcases n with ⟨pc', L', st', I', J'⟩ | v | ⟨z, as, r, pc'⟩
      · exact ih _ _ _ _ _ _ _ h
      · exact h
      · dsimp only at h ⊢
        cases hz : zex S f z 0 (zent (zL z) as) [] I J with
        | none => rw [hz] at h; simp at h
        | some w =>
          rw [hz] at h
          rw [ih _ _ _ _ _ _ _ hz]
          exact ih _ _ _ _ _ _ _ h
theorem zex_le (S : zSg) {f g y pc : Nat} {L st : List Value} {I : zI} {J : zJ} {x : Option Value × zI × zJ} (hfg : f ≤ g) (h : zex S f y pc L st I J = some x) : zex S g y pc L st I J = some x := by
  induction hfg with
  | refl => exact h
  | step _ ih => exact zex_mono S _ _ _ _ _ _ _ _ ih
section RN
variable {S : zSg} {y pc n : Nat} {L st : List Value} {I : zI} {J : zJ} {Q : zQ} {i : Instr}
theorem Rn_step {pc' : Nat} {L' st' : List Value} {I' : zI} {J' : zJ} (h : zstp S y pc L st I J = some (.inl (pc', L', st', I', J'))) : Rn S y pc L st I J Q = Rn S y pc' L' st' I' J' Q := by
  apply propext
  constructor
  · rintro ⟨f, v, I2, J2, h1, h2⟩
    cases f with
    | zero => simp [zex] at h1
    | succ f => rw [zex, h] at h1; exact ⟨f, v, I2, J2, h1, h2⟩
  · rintro ⟨f, v, I2, J2, h1, h2⟩
    exact ⟨f + 1, v, I2, J2, by rw [zex, h]; exact h1, h2⟩
theorem Rn_ret {v : Option Value} (h : zstp S y pc L st I J = some (.inr (.inl v))) : Rn S y pc L st I J Q = Q v I J := by
  apply propext
  constructor
  · rintro ⟨f, v2, I2, J2, h1, h2⟩
    cases f with
    | zero => simp [zex] at h1
    | succ f =>
      rw [zex, h] at h1
      have h1 := Option.some.inj h1
      cases h1
      exact h2
  · intro h2
    exact ⟨1, v, I, J, by rw [zex, h], h2⟩
theorem Rn_stuck (h : zstp S y pc L st I J = none) : Rn S y pc L st I J Q = False := by
  apply propext
  constructor
  · rintro ⟨f, v2, I2, J2, h1, h2⟩
    cases f with
    | zero => simp [zex] at h1
    | succ f => rw [zex, h] at h1; cases h1
  · exact False.elim
theorem Rn_call {z pc' : Nat} {as r : List Value} (h : zstp S y pc L st I J = some (.inr (.inr (z, as, r, pc')))) : Rn S y pc L st I J Q = Rn S z 0 (zent (zL z) as) [] I J (fun v I' J' => Rn S y pc' L (v.toList ++ r) I' J' Q) := by
  apply propext
  constructor
  · rintro ⟨f, v2, I2, J2, h1, h2⟩
    cases f with
    | zero => simp [zex] at h1
    | succ f =>
      rw [zex, h] at h1
      dsimp only at h1
      cases hz : zex S f z 0 (zent (zL z) as) [] I J with
      | none => rw [hz] at h1; cases h1
      | some w =>
        rw [hz] at h1
        obtain ⟨v, I', J'⟩ := w
        exact ⟨f, v, I', J', hz, f, v2, I2, J2, h1, h2⟩
  · rintro ⟨f, v, I', J', h1, g, v2, I2, J2, h2, h3⟩
    refine ⟨max f g + 1, v2, I2, J2, ?_, h3⟩
    rw [zex, h]
    dsimp only
    rw [zex_le S (Nat.le_max_left f g) h1]
    exact zex_le S (Nat.le_max_right f g) h2
theorem Rn_mono {Q' : zQ} (hQ : ∀ v I' J', Q v I' J' → Q' v I' J') (h : Rn S y pc L st I J Q) : Rn S y pc L st I J Q' := by
  obtain ⟨f, v, I', J', h1, h2⟩ := h
  exact ⟨f, v, I', J', h1, hQ _ _ _ h2⟩
theorem zstp_of (hf : zft y pc = some (i, n)) : zstp S y pc L st I J = zst0 S y pc n i L st I J := by simp only [zstp, hf]
/-- a row of the stack alone -/
theorem rS {st' : List Value} (hf : zft y pc = some (i, n)) (h : zstk y i st = some st') : Rn S y pc L st I J Q = Rn S y (pc + n) L st' I J Q :=
  Rn_step (by rw [zstp_of hf]; simp only [zst0, h])
/-- a row of the locals -/
theorem rL {L' st' : List Value} (hf : zft y pc = some (i, n)) (h0 : zstk y i st = none) (h : zlcl i L st = some (L', st')) : Rn S y pc L st I J Q = Rn S y (pc + n) L' st' I J Q :=
  Rn_step (by rw [zstp_of hf]; simp only [zst0, zst1, h0, h])
/-- a jump -/
theorem rB {pc' : Nat} {st' : List Value} (hf : zft y pc = some (i, n)) (h0 : zstk y i st = none) (h1 : zlcl i L st = none) (h : zbr i pc n st = some (pc', st')) : Rn S y pc L st I J Q = Rn S y pc' L st' I J Q :=
  Rn_step (by rw [zstp_of hf]; simp only [zst0, zst1, zst2, h0, h1, h])
/-- cells -/
theorem rM {st' : List Value} {I' : zI} {J' : zJ} (hf : zft y pc = some (i, n)) (h0 : zstk y i st = none) (h1 : zlcl i L st = none) (h2 : zbr i pc n st = none) (h : zmem S y i st I J = some (st', I', J')) : Rn S y pc L st I J Q = Rn S y (pc + n) L st' I' J' Q :=
  Rn_step (by rw [zstp_of hf]; simp only [zst0, zst1, zst2, zst3, h0, h1, h2, h])
theorem rMC {C : Prop} {st' : List Value} {I' : zI} {J' : zJ} (hf : zft y pc = some (i, n)) (h0 : zstk y i st = none) (h1 : zlcl i L st = none) (h2 : zbr i pc n st = none) (h : C → zmem S y i st I J = some (st', I', J')) (hn : ¬ C → zmem S y i st I J = none) (h4 : zst4 S y pc n i st = none) : Rn S y pc L st I J Q = (C ∧ Rn S y (pc + n) L st' I' J' Q) := by
  by_cases hC : C
  · rw [rM hf h0 h1 h2 (h hC)]
    simp only [hC, true_and]
  · rw [Rn_stuck (by rw [zstp_of hf]; simp only [zst0, zst1, zst2, zst3, h0, h1, h2, hn hC, h4])]
    simp only [hC, false_and]
theorem rSC {C : Prop} {st' : List Value} (hf : zft y pc = some (i, n)) (h : C → zstk y i st = some st') (hn : ¬ C → zstk y i st = none) (h4 : zst1 S y pc n i L st I J = none) : Rn S y pc L st I J Q = (C ∧ Rn S y (pc + n) L st' I J Q) := by
  by_cases hC : C
  · rw [rS hf (h hC)]
    simp only [hC, true_and]
  · rw [Rn_stuck (by rw [zstp_of hf]; simp only [zst0, hn hC, h4])]
    simp only [hC, false_and]
theorem rR {v : Option Value} (hf : zft y pc = some (i, n)) (h0 : zstk y i st = none) (h1 : zlcl i L st = none) (h2 : zbr i pc n st = none) (h3 : zmem S y i st I J = none) (h : zrt y i st = some v) : Rn S y pc L st I J Q = Q v I J :=
  Rn_ret (by rw [zstp_of hf]; simp only [zst0, zst1, zst2, zst3, zst4, h0, h1, h2, h3, h])
theorem rRZ {x : Int32} (hf : zft y pc = some (.ireturn, 1)) (hz : zZ y = 3 ∨ zZ y = 4) : Rn S y pc L [.int x] I J Q = ((x = 0 ∨ x = 1) ∧ Q (some (.int x)) I J) := by
  by_cases hC : x = 0 ∨ x = 1
  · rw [rR hf rfl rfl rfl rfl (v := some (.int x)) (by simp only [zrt]; exact if_pos (Or.inr ⟨hz, hC⟩))]
    simp only [hC, true_and]
  · have h1 : ¬ zZ y = 1 := by omega
    rw [Rn_stuck (by rw [zstp_of hf]; simp [zst0, zst1, zst2, zst3, zst4, zstk, zlcl, zbr, zmem, zrt, zcal, hC, h1])]
    simp only [hC, false_and]
theorem rC {z : Nat} {as r : List Value} {C : Prop} (hf : zft y pc = some (i, n)) (h0 : zstk y i st = none) (h1 : zlcl i L st = none) (h2 : zbr i pc n st = none) (h3 : zmem S y i st I J = none) (hr : zrt y i st = none) (h : C → zcal S y i st = some (z, as, r)) (hn : ¬ C → zcal S y i st = none) :
    Rn S y pc L st I J Q = (C ∧ Rn S z 0 (zent (zL z) as) [] I J (fun v I' J' => Rn S y (pc + n) L (v.toList ++ r) I' J' Q)) := by
  by_cases hC : C
  · rw [Rn_call (z := z) (as := as) (r := r) (pc' := pc + n) (by rw [zstp_of hf]; simp only [zst0, zst1, zst2, zst3, zst4, h0, h1, h2, h3, hr, h hC])]
    simp only [hC, true_and]
  · rw [Rn_stuck (by rw [zstp_of hf]; simp only [zst0, zst1, zst2, zst3, zst4, h0, h1, h2, h3, hr, hn hC])]
    simp only [hC, false_and]
end RN

section
variable {S : zSg} {I : zI} {J : zJ} {Q : zQ} {st : List Value} {v0 v1 v2 v3 v4 v5 v6 v7 v8 v9 v10 v11 v12 v13 v14 v15 : Value} {a b c a0 a1 a2 a3 a4 a5 : Int32} {u w u0 u1 u2 : Int64} {q r q0 q1 q2 xl : Nat}
/-! X6.in: 96 -/
theorem B96 : zB 96 = cX6_in := rfl
theorem f96_0 : zft 96 0 = some (.lload_n 0, 1) := fet B96 (by decide +kernel) (Or.inr rfl)
theorem f96_1 : zft 96 1 = some (.lload_n 2, 1) := fet B96 (by decide +kernel) (Or.inr rfl)
theorem f96_2 : zft 96 2 = some (.lcmp, 1) := fet B96 (by decide +kernel) (Or.inr rfl)
theorem f96_3 : zft 96 3 = some (.ifCond .lt 14, 3) := fet B96 (by decide +kernel) (Or.inr rfl)
theorem f96_6 : zft 96 6 = some (.lload_n 0, 1) := fet B96 (by decide +kernel) (Or.inr rfl)
theorem f96_7 : zft 96 7 = some (.lload 4, 2) := fet B96 (by decide +kernel) (Or.inr rfl)
theorem f96_9 : zft 96 9 = some (.lcmp, 1) := fet B96 (by decide +kernel) (Or.inr rfl)
theorem f96_10 : zft 96 10 = some (.ifCond .gt 7, 3) := fet B96 (by decide +kernel) (Or.inr rfl)
theorem f96_13 : zft 96 13 = some (.iconst 1, 1) := fet B96 (by decide +kernel) (Or.inr rfl)
theorem f96_14 : zft 96 14 = some (.goto 4, 3) := fet B96 (by decide +kernel) (Or.inr rfl)
theorem f96_17 : zft 96 17 = some (.iconst 0, 1) := fet B96 (by decide +kernel) (Or.inr rfl)
theorem f96_18 : zft 96 18 = some (.ireturn, 1) := fet B96 (by decide +kernel) (Or.inr rfl)
theorem x96_0 : Rn S 96 0 [.long u, v1, v2, v3, v4, v5] st I J Q = Rn S 96 1 [.long u, v1, v2, v3, v4, v5] (.long u :: st) I J Q := rL f96_0 rfl rfl
theorem x96_1 : Rn S 96 1 [v0, v1, .long u, v3, v4, v5] st I J Q = Rn S 96 2 [v0, v1, .long u, v3, v4, v5] (.long u :: st) I J Q := rL f96_1 rfl rfl
theorem x96_2 : Rn S 96 2 [v0, v1, v2, v3, v4, v5] (.long w :: .long u :: st) I J Q = Rn S 96 3 [v0, v1, v2, v3, v4, v5] (.int (lg_cmp u w) :: st) I J Q := rS f96_2 rfl
theorem x96_3 : Rn S 96 3 [v0, v1, v2, v3, v4, v5] (.int a :: st) I J Q = if a < 0 then Rn S 96 17 [v0, v1, v2, v3, v4, v5] st I J Q else Rn S 96 6 [v0, v1, v2, v3, v4, v5] st I J Q := rIlt f96_3 rfl rfl
theorem x96_6 : Rn S 96 6 [.long u, v1, v2, v3, v4, v5] st I J Q = Rn S 96 7 [.long u, v1, v2, v3, v4, v5] (.long u :: st) I J Q := rL f96_6 rfl rfl
theorem x96_7 : Rn S 96 7 [v0, v1, v2, v3, .long u, v5] st I J Q = Rn S 96 9 [v0, v1, v2, v3, .long u, v5] (.long u :: st) I J Q := rL f96_7 rfl rfl
theorem x96_9 : Rn S 96 9 [v0, v1, v2, v3, v4, v5] (.long w :: .long u :: st) I J Q = Rn S 96 10 [v0, v1, v2, v3, v4, v5] (.int (lg_cmp u w) :: st) I J Q := rS f96_9 rfl
theorem x96_10 : Rn S 96 10 [v0, v1, v2, v3, v4, v5] (.int a :: st) I J Q = if 0 < a then Rn S 96 17 [v0, v1, v2, v3, v4, v5] st I J Q else Rn S 96 13 [v0, v1, v2, v3, v4, v5] st I J Q := rIgt f96_10 rfl rfl
theorem x96_13 : Rn S 96 13 [v0, v1, v2, v3, v4, v5] st I J Q = Rn S 96 14 [v0, v1, v2, v3, v4, v5] (.int 1 :: st) I J Q := rS f96_13 rfl
theorem x96_14 : Rn S 96 14 [v0, v1, v2, v3, v4, v5] st I J Q = Rn S 96 18 [v0, v1, v2, v3, v4, v5] st I J Q := rB f96_14 rfl rfl rfl
theorem x96_17 : Rn S 96 17 [v0, v1, v2, v3, v4, v5] st I J Q = Rn S 96 18 [v0, v1, v2, v3, v4, v5] (.int 0 :: st) I J Q := rS f96_17 rfl
theorem x96_18 : Rn S 96 18 [v0, v1, v2, v3, v4, v5] [.int a] I J Q = ((a = 0 ∨ a = 1) ∧ Q (some (.int a)) I J) := rRZ f96_18 (Or.inl rfl)
/-! X6.no: 97 -/
theorem B97 : zB 97 = cX6_no := rfl
theorem f97_0 : zft 97 0 = some (.ldc2_w 84, 3) := fet B97 (by decide +kernel) (Or.inr rfl)
theorem f97_3 : zft 97 3 = some (.iload_n 0, 1) := fet B97 (by decide +kernel) (Or.inr rfl)
theorem f97_4 : zft 97 4 = some (.i2l, 1) := fet B97 (by decide +kernel) (Or.inr rfl)
theorem f97_5 : zft 97 5 = some (.lsub, 1) := fet B97 (by decide +kernel) (Or.inr rfl)
theorem f97_6 : zft 97 6 = some (.lreturn, 1) := fet B97 (by decide +kernel) (Or.inr rfl)
theorem x97_0 : Rn S 97 0 [v0] st I J Q = Rn S 97 3 [v0] (.long (-9223372036854775808) :: st) I J Q := rS f97_0 rfl
theorem x97_3 : Rn S 97 3 [.int a] st I J Q = Rn S 97 4 [.int a] (.int a :: st) I J Q := rL f97_3 rfl rfl
theorem x97_4 : Rn S 97 4 [v0] (.int a :: st) I J Q = Rn S 97 5 [v0] (.long a.toInt64 :: st) I J Q := rS f97_4 rfl
theorem x97_5 : Rn S 97 5 [v0] (.long w :: .long u :: st) I J Q = Rn S 97 6 [v0] (.long (u - w) :: st) I J Q := rS f97_5 rfl
theorem x97_6 : Rn S 97 6 [v0] [.long u] I J Q = Q (some (.long u)) I J := rR f97_6 rfl rfl rfl rfl rfl
/-! X6.isTwo: 98 -/
theorem B98 : zB 98 = cX6_isTwo := rfl
theorem f98_0 : zft 98 0 = some (.iload_n 0, 1) := fet B98 (by decide +kernel) (Or.inr rfl)
theorem f98_1 : zft 98 1 = some (.i2l, 1) := fet B98 (by decide +kernel) (Or.inr rfl)
theorem f98_2 : zft 98 2 = some (.lconst 0, 1) := fet B98 (by decide +kernel) (Or.inr rfl)
theorem f98_3 : zft 98 3 = some (.lconst 1, 1) := fet B98 (by decide +kernel) (Or.inr rfl)
theorem f98_4 : zft 98 4 = some (.invokestatic 86, 3) := fet B98 (by decide +kernel) (Or.inr rfl)
theorem f98_7 : zft 98 7 = some (.ireturn, 1) := fet B98 (by decide +kernel) (Or.inr rfl)
theorem x98_0 : Rn S 98 0 [.int a] st I J Q = Rn S 98 1 [.int a] (.int a :: st) I J Q := rL f98_0 rfl rfl
theorem x98_1 : Rn S 98 1 [v0] (.int a :: st) I J Q = Rn S 98 2 [v0] (.long a.toInt64 :: st) I J Q := rS f98_1 rfl
theorem x98_2 : Rn S 98 2 [v0] st I J Q = Rn S 98 3 [v0] (.long 0 :: st) I J Q := rS f98_2 rfl
theorem x98_3 : Rn S 98 3 [v0] st I J Q = Rn S 98 4 [v0] (.long 1 :: st) I J Q := rS f98_3 rfl
theorem x98_4 : Rn S 98 4 [v0] (.long u2 :: .long u1 :: .long u0 :: st) I J Q = (zcs st ≤ 8 ∧ Rn S 96 0 [.long u0, .null, .long u1, .null, .long u2, .null] [] I J (fun v I' J' => Rn S 98 7 [v0] (v.toList ++ st) I' J' Q)) := rCS (As := [.long u0, .long u1, .long u2]) f98_4 rfl rfl rfl rfl (Nat.le_of_ble_eq_true rfl)
theorem x98_7 : Rn S 98 7 [v0] [.int a] I J Q = ((a = 0 ∨ a = 1) ∧ Q (some (.int a)) I J) := rRZ f98_7 (Or.inl rfl)
/-! X6.isIn: 99 -/
theorem B99 : zB 99 = cX6_isIn := rfl
theorem f99_0 : zft 99 0 = some (.iload_n 0, 1) := fet B99 (by decide +kernel) (Or.inr rfl)
theorem f99_1 : zft 99 1 = some (.iload_n 1, 1) := fet B99 (by decide +kernel) (Or.inr rfl)
theorem f99_2 : zft 99 2 = some (.ishr, 1) := fet B99 (by decide +kernel) (Or.inr rfl)
theorem f99_3 : zft 99 3 = some (.iconst 1, 1) := fet B99 (by decide +kernel) (Or.inr rfl)
theorem f99_4 : zft 99 4 = some (.iand, 1) := fet B99 (by decide +kernel) (Or.inr rfl)
theorem f99_5 : zft 99 5 = some (.iconst 1, 1) := fet B99 (by decide +kernel) (Or.inr rfl)
theorem f99_6 : zft 99 6 = some (.if_icmp .ne 7, 3) := fet B99 (by decide +kernel) (Or.inr rfl)
theorem f99_9 : zft 99 9 = some (.iconst 1, 1) := fet B99 (by decide +kernel) (Or.inr rfl)
theorem f99_10 : zft 99 10 = some (.goto 4, 3) := fet B99 (by decide +kernel) (Or.inr rfl)
theorem f99_13 : zft 99 13 = some (.iconst 0, 1) := fet B99 (by decide +kernel) (Or.inr rfl)
theorem f99_14 : zft 99 14 = some (.ireturn, 1) := fet B99 (by decide +kernel) (Or.inr rfl)
theorem x99_0 : Rn S 99 0 [.int a, v1] st I J Q = Rn S 99 1 [.int a, v1] (.int a :: st) I J Q := rL f99_0 rfl rfl
theorem x99_1 : Rn S 99 1 [v0, .int a] st I J Q = Rn S 99 2 [v0, .int a] (.int a :: st) I J Q := rL f99_1 rfl rfl
theorem x99_2 : Rn S 99 2 [v0, v1] (.int b :: .int a :: st) I J Q = Rn S 99 3 [v0, v1] (.int (a >>> (b &&& 31)) :: st) I J Q := rS f99_2 rfl
theorem x99_3 : Rn S 99 3 [v0, v1] st I J Q = Rn S 99 4 [v0, v1] (.int 1 :: st) I J Q := rS f99_3 rfl
theorem x99_4 : Rn S 99 4 [v0, v1] (.int b :: .int a :: st) I J Q = Rn S 99 5 [v0, v1] (.int (a &&& b) :: st) I J Q := rS f99_4 rfl
theorem x99_5 : Rn S 99 5 [v0, v1] st I J Q = Rn S 99 6 [v0, v1] (.int 1 :: st) I J Q := rS f99_5 rfl
theorem x99_6 : Rn S 99 6 [v0, v1] (.int b :: .int a :: st) I J Q = if a = b then Rn S 99 9 [v0, v1] st I J Q else Rn S 99 13 [v0, v1] st I J Q := rCne f99_6 rfl rfl
theorem x99_9 : Rn S 99 9 [v0, v1] st I J Q = Rn S 99 10 [v0, v1] (.int 1 :: st) I J Q := rS f99_9 rfl
theorem x99_10 : Rn S 99 10 [v0, v1] st I J Q = Rn S 99 14 [v0, v1] st I J Q := rB f99_10 rfl rfl rfl
theorem x99_13 : Rn S 99 13 [v0, v1] st I J Q = Rn S 99 14 [v0, v1] (.int 0 :: st) I J Q := rS f99_13 rfl
theorem x99_14 : Rn S 99 14 [v0, v1] [.int a] I J Q = ((a = 0 ∨ a = 1) ∧ Q (some (.int a)) I J) := rRZ f99_14 (Or.inl rfl)
/-! X6.ones: 100 -/
theorem B100 : zB 100 = cX6_ones := rfl
theorem f100_0 : zft 100 0 = some (.iconst 0, 1) := fet B100 (by decide +kernel) (Or.inr rfl)
theorem f100_1 : zft 100 1 = some (.istore_n 1, 1) := fet B100 (by decide +kernel) (Or.inr rfl)
theorem f100_2 : zft 100 2 = some (.iload_n 0, 1) := fet B100 (by decide +kernel) (Or.inr rfl)
theorem f100_3 : zft 100 3 = some (.istore_n 2, 1) := fet B100 (by decide +kernel) (Or.inr rfl)
theorem f100_4 : zft 100 4 = some (.iload_n 2, 1) := fet B100 (by decide +kernel) (Or.inr rfl)
theorem f100_5 : zft 100 5 = some (.ifCond .eq 15, 3) := fet B100 (by decide +kernel) (Or.inr rfl)
theorem f100_8 : zft 100 8 = some (.iinc 1 1, 3) := fet B100 (by decide +kernel) (Or.inr rfl)
theorem f100_11 : zft 100 11 = some (.iload_n 2, 1) := fet B100 (by decide +kernel) (Or.inr rfl)
theorem f100_12 : zft 100 12 = some (.iload_n 2, 1) := fet B100 (by decide +kernel) (Or.inr rfl)
theorem f100_13 : zft 100 13 = some (.iconst 1, 1) := fet B100 (by decide +kernel) (Or.inr rfl)
theorem f100_14 : zft 100 14 = some (.isub, 1) := fet B100 (by decide +kernel) (Or.inr rfl)
theorem f100_15 : zft 100 15 = some (.iand, 1) := fet B100 (by decide +kernel) (Or.inr rfl)
theorem f100_16 : zft 100 16 = some (.istore_n 2, 1) := fet B100 (by decide +kernel) (Or.inr rfl)
theorem f100_17 : zft 100 17 = some (.goto (-13), 3) := fet B100 (by decide +kernel) (Or.inr rfl)
theorem f100_20 : zft 100 20 = some (.iload_n 1, 1) := fet B100 (by decide +kernel) (Or.inr rfl)
theorem f100_21 : zft 100 21 = some (.ireturn, 1) := fet B100 (by decide +kernel) (Or.inr rfl)
theorem x100_0 : Rn S 100 0 [v0, v1, v2] st I J Q = Rn S 100 1 [v0, v1, v2] (.int 0 :: st) I J Q := rS f100_0 rfl
theorem x100_1 : Rn S 100 1 [v0, v1, v2] (.int a :: st) I J Q = Rn S 100 2 [zkl v0, .int a, v2] st I J Q := rL f100_1 rfl rfl
theorem x100_2 : Rn S 100 2 [.int a, v1, v2] st I J Q = Rn S 100 3 [.int a, v1, v2] (.int a :: st) I J Q := rL f100_2 rfl rfl
theorem x100_3 : Rn S 100 3 [v0, v1, v2] (.int a :: st) I J Q = Rn S 100 4 [v0, zkl v1, .int a] st I J Q := rL f100_3 rfl rfl
theorem h100_4 : Rn S 100 4 [v0, v1, .int a] st I J Q = Rn S 100 5 [v0, v1, .int a] (.int a :: st) I J Q := rL f100_4 rfl rfl
theorem x100_5 : Rn S 100 5 [v0, v1, v2] (.int a :: st) I J Q = if a = 0 then Rn S 100 20 [v0, v1, v2] st I J Q else Rn S 100 8 [v0, v1, v2] st I J Q := rIeq f100_5 rfl rfl
theorem x100_8 : Rn S 100 8 [v0, .int a, v2] st I J Q = Rn S 100 11 [zkl v0, .int (a + 1), v2] st I J Q := rL f100_8 rfl rfl
theorem x100_11 : Rn S 100 11 [v0, v1, .int a] st I J Q = Rn S 100 12 [v0, v1, .int a] (.int a :: st) I J Q := rL f100_11 rfl rfl
theorem x100_12 : Rn S 100 12 [v0, v1, .int a] st I J Q = Rn S 100 13 [v0, v1, .int a] (.int a :: st) I J Q := rL f100_12 rfl rfl
theorem x100_13 : Rn S 100 13 [v0, v1, v2] st I J Q = Rn S 100 14 [v0, v1, v2] (.int 1 :: st) I J Q := rS f100_13 rfl
theorem x100_14 : Rn S 100 14 [v0, v1, v2] (.int b :: .int a :: st) I J Q = Rn S 100 15 [v0, v1, v2] (.int (a - b) :: st) I J Q := rS f100_14 rfl
theorem x100_15 : Rn S 100 15 [v0, v1, v2] (.int b :: .int a :: st) I J Q = Rn S 100 16 [v0, v1, v2] (.int (a &&& b) :: st) I J Q := rS f100_15 rfl
theorem x100_16 : Rn S 100 16 [v0, v1, v2] (.int a :: st) I J Q = Rn S 100 17 [v0, zkl v1, .int a] st I J Q := rL f100_16 rfl rfl
theorem x100_17 : Rn S 100 17 [v0, v1, v2] st I J Q = Rn S 100 4 [v0, v1, v2] st I J Q := rB f100_17 rfl rfl rfl
theorem x100_20 : Rn S 100 20 [v0, .int a, v2] st I J Q = Rn S 100 21 [v0, .int a, v2] (.int a :: st) I J Q := rL f100_20 rfl rfl
theorem x100_21 : Rn S 100 21 [v0, v1, v2] [.int a] I J Q = Q (some (.int a)) I J := rR f100_21 rfl rfl rfl rfl rfl
/-! X6.lesser: 101 -/
theorem B101 : zB 101 = cX6_lesser := rfl
theorem f101_0 : zft 101 0 = some (.iload_n 0, 1) := fet B101 (by decide +kernel) (Or.inr rfl)
theorem f101_1 : zft 101 1 = some (.iload_n 1, 1) := fet B101 (by decide +kernel) (Or.inr rfl)
theorem f101_2 : zft 101 2 = some (.if_icmp .ge 7, 3) := fet B101 (by decide +kernel) (Or.inr rfl)
theorem f101_5 : zft 101 5 = some (.iload_n 0, 1) := fet B101 (by decide +kernel) (Or.inr rfl)
theorem f101_6 : zft 101 6 = some (.goto 4, 3) := fet B101 (by decide +kernel) (Or.inr rfl)
theorem f101_9 : zft 101 9 = some (.iload_n 1, 1) := fet B101 (by decide +kernel) (Or.inr rfl)
theorem f101_10 : zft 101 10 = some (.ireturn, 1) := fet B101 (by decide +kernel) (Or.inr rfl)
theorem x101_0 : Rn S 101 0 [.int a, v1] st I J Q = Rn S 101 1 [.int a, v1] (.int a :: st) I J Q := rL f101_0 rfl rfl
theorem x101_1 : Rn S 101 1 [v0, .int a] st I J Q = Rn S 101 2 [v0, .int a] (.int a :: st) I J Q := rL f101_1 rfl rfl
theorem x101_2 : Rn S 101 2 [v0, v1] (.int b :: .int a :: st) I J Q = if a < b then Rn S 101 5 [v0, v1] st I J Q else Rn S 101 9 [v0, v1] st I J Q := rCge f101_2 rfl rfl
theorem x101_5 : Rn S 101 5 [.int a, v1] st I J Q = Rn S 101 6 [.int a, v1] (.int a :: st) I J Q := rL f101_5 rfl rfl
theorem x101_6 : Rn S 101 6 [v0, v1] st I J Q = Rn S 101 10 [v0, v1] st I J Q := rB f101_6 rfl rfl rfl
theorem x101_9 : Rn S 101 9 [v0, .int a] st I J Q = Rn S 101 10 [v0, .int a] (.int a :: st) I J Q := rL f101_9 rfl rfl
theorem x101_10 : Rn S 101 10 [v0, v1] [.int a] I J Q = Q (some (.int a)) I J := rR f101_10 rfl rfl rfl rfl rfl
/-! X6.greater: 102 -/
theorem B102 : zB 102 = cX6_greater := rfl
theorem f102_0 : zft 102 0 = some (.iload_n 0, 1) := fet B102 (by decide +kernel) (Or.inr rfl)
theorem f102_1 : zft 102 1 = some (.iload_n 1, 1) := fet B102 (by decide +kernel) (Or.inr rfl)
theorem f102_2 : zft 102 2 = some (.if_icmp .le 7, 3) := fet B102 (by decide +kernel) (Or.inr rfl)
theorem f102_5 : zft 102 5 = some (.iload_n 0, 1) := fet B102 (by decide +kernel) (Or.inr rfl)
theorem f102_6 : zft 102 6 = some (.goto 4, 3) := fet B102 (by decide +kernel) (Or.inr rfl)
theorem f102_9 : zft 102 9 = some (.iload_n 1, 1) := fet B102 (by decide +kernel) (Or.inr rfl)
theorem f102_10 : zft 102 10 = some (.ireturn, 1) := fet B102 (by decide +kernel) (Or.inr rfl)
theorem x102_0 : Rn S 102 0 [.int a, v1] st I J Q = Rn S 102 1 [.int a, v1] (.int a :: st) I J Q := rL f102_0 rfl rfl
theorem x102_1 : Rn S 102 1 [v0, .int a] st I J Q = Rn S 102 2 [v0, .int a] (.int a :: st) I J Q := rL f102_1 rfl rfl
theorem x102_2 : Rn S 102 2 [v0, v1] (.int b :: .int a :: st) I J Q = if b < a then Rn S 102 5 [v0, v1] st I J Q else Rn S 102 9 [v0, v1] st I J Q := rCle f102_2 rfl rfl
theorem x102_5 : Rn S 102 5 [.int a, v1] st I J Q = Rn S 102 6 [.int a, v1] (.int a :: st) I J Q := rL f102_5 rfl rfl
theorem x102_6 : Rn S 102 6 [v0, v1] st I J Q = Rn S 102 10 [v0, v1] st I J Q := rB f102_6 rfl rfl rfl
theorem x102_9 : Rn S 102 9 [v0, .int a] st I J Q = Rn S 102 10 [v0, .int a] (.int a :: st) I J Q := rL f102_9 rfl rfl
theorem x102_10 : Rn S 102 10 [v0, v1] [.int a] I J Q = Q (some (.int a)) I J := rR f102_10 rfl rfl rfl rfl rfl
/-! X6.part: 103 -/
theorem B103 : zB 103 = cX6_part := rfl
theorem f103_0 : zft 103 0 = some (.lload_n 0, 1) := fet B103 (by decide +kernel) (Or.inr rfl)
theorem f103_1 : zft 103 1 = some (.lstore 5, 2) := fet B103 (by decide +kernel) (Or.inr rfl)
theorem f103_3 : zft 103 3 = some (.lload_n 2, 1) := fet B103 (by decide +kernel) (Or.inr rfl)
theorem f103_4 : zft 103 4 = some (.lstore 7, 2) := fet B103 (by decide +kernel) (Or.inr rfl)
theorem f103_6 : zft 103 6 = some (.lload 7, 2) := fet B103 (by decide +kernel) (Or.inr rfl)
theorem f103_8 : zft 103 8 = some (.lconst 0, 1) := fet B103 (by decide +kernel) (Or.inr rfl)
theorem f103_9 : zft 103 9 = some (.lcmp, 1) := fet B103 (by decide +kernel) (Or.inr rfl)
theorem f103_10 : zft 103 10 = some (.ifCond .eq 21, 3) := fet B103 (by decide +kernel) (Or.inr rfl)
theorem f103_13 : zft 103 13 = some (.lload 5, 2) := fet B103 (by decide +kernel) (Or.inr rfl)
theorem f103_15 : zft 103 15 = some (.lload 7, 2) := fet B103 (by decide +kernel) (Or.inr rfl)
theorem f103_17 : zft 103 17 = some (.lrem, 1) := fet B103 (by decide +kernel) (Or.inr rfl)
theorem f103_18 : zft 103 18 = some (.lstore 9, 2) := fet B103 (by decide +kernel) (Or.inr rfl)
theorem f103_20 : zft 103 20 = some (.lload 7, 2) := fet B103 (by decide +kernel) (Or.inr rfl)
theorem f103_22 : zft 103 22 = some (.lstore 5, 2) := fet B103 (by decide +kernel) (Or.inr rfl)
theorem f103_24 : zft 103 24 = some (.lload 9, 2) := fet B103 (by decide +kernel) (Or.inr rfl)
theorem f103_26 : zft 103 26 = some (.lstore 7, 2) := fet B103 (by decide +kernel) (Or.inr rfl)
theorem f103_28 : zft 103 28 = some (.goto (-22), 3) := fet B103 (by decide +kernel) (Or.inr rfl)
theorem f103_31 : zft 103 31 = some (.iload 4, 2) := fet B103 (by decide +kernel) (Or.inr rfl)
theorem f103_33 : zft 103 33 = some (.ifCond .ne 7, 3) := fet B103 (by decide +kernel) (Or.inr rfl)
theorem f103_36 : zft 103 36 = some (.lload_n 0, 1) := fet B103 (by decide +kernel) (Or.inr rfl)
theorem f103_37 : zft 103 37 = some (.goto 4, 3) := fet B103 (by decide +kernel) (Or.inr rfl)
theorem f103_40 : zft 103 40 = some (.lload_n 2, 1) := fet B103 (by decide +kernel) (Or.inr rfl)
theorem f103_41 : zft 103 41 = some (.lload 5, 2) := fet B103 (by decide +kernel) (Or.inr rfl)
theorem f103_43 : zft 103 43 = some (.ldiv, 1) := fet B103 (by decide +kernel) (Or.inr rfl)
theorem f103_44 : zft 103 44 = some (.lreturn, 1) := fet B103 (by decide +kernel) (Or.inr rfl)
theorem x103_0 : Rn S 103 0 [.long u, v1, v2, v3, v4, v5, v6, v7, v8, v9, v10] st I J Q = Rn S 103 1 [.long u, v1, v2, v3, v4, v5, v6, v7, v8, v9, v10] (.long u :: st) I J Q := rL f103_0 rfl rfl
theorem x103_1 : Rn S 103 1 [v0, v1, v2, v3, v4, v5, v6, v7, v8, v9, v10] (.long u :: st) I J Q = Rn S 103 3 [v0, v1, v2, v3, zkl v4, .long u, .null, v7, v8, v9, v10] st I J Q := rL f103_1 rfl rfl
theorem x103_3 : Rn S 103 3 [v0, v1, .long u, v3, v4, v5, v6, v7, v8, v9, v10] st I J Q = Rn S 103 4 [v0, v1, .long u, v3, v4, v5, v6, v7, v8, v9, v10] (.long u :: st) I J Q := rL f103_3 rfl rfl
theorem x103_4 : Rn S 103 4 [v0, v1, v2, v3, v4, v5, v6, v7, v8, v9, v10] (.long u :: st) I J Q = Rn S 103 6 [v0, v1, v2, v3, v4, v5, zkl v6, .long u, .null, v9, v10] st I J Q := rL f103_4 rfl rfl
theorem h103_6 : Rn S 103 6 [v0, v1, v2, v3, v4, v5, v6, .long u, v8, v9, v10] st I J Q = Rn S 103 8 [v0, v1, v2, v3, v4, v5, v6, .long u, v8, v9, v10] (.long u :: st) I J Q := rL f103_6 rfl rfl
theorem x103_8 : Rn S 103 8 [v0, v1, v2, v3, v4, v5, v6, v7, v8, v9, v10] st I J Q = Rn S 103 9 [v0, v1, v2, v3, v4, v5, v6, v7, v8, v9, v10] (.long 0 :: st) I J Q := rS f103_8 rfl
theorem x103_9 : Rn S 103 9 [v0, v1, v2, v3, v4, v5, v6, v7, v8, v9, v10] (.long w :: .long u :: st) I J Q = Rn S 103 10 [v0, v1, v2, v3, v4, v5, v6, v7, v8, v9, v10] (.int (lg_cmp u w) :: st) I J Q := rS f103_9 rfl
theorem x103_10 : Rn S 103 10 [v0, v1, v2, v3, v4, v5, v6, v7, v8, v9, v10] (.int a :: st) I J Q = if a = 0 then Rn S 103 31 [v0, v1, v2, v3, v4, v5, v6, v7, v8, v9, v10] st I J Q else Rn S 103 13 [v0, v1, v2, v3, v4, v5, v6, v7, v8, v9, v10] st I J Q := rIeq f103_10 rfl rfl
theorem x103_13 : Rn S 103 13 [v0, v1, v2, v3, v4, .long u, v6, v7, v8, v9, v10] st I J Q = Rn S 103 15 [v0, v1, v2, v3, v4, .long u, v6, v7, v8, v9, v10] (.long u :: st) I J Q := rL f103_13 rfl rfl
theorem x103_15 : Rn S 103 15 [v0, v1, v2, v3, v4, v5, v6, .long u, v8, v9, v10] st I J Q = Rn S 103 17 [v0, v1, v2, v3, v4, v5, v6, .long u, v8, v9, v10] (.long u :: st) I J Q := rL f103_15 rfl rfl
theorem x103_17 : Rn S 103 17 [v0, v1, v2, v3, v4, v5, v6, v7, v8, v9, v10] (.long w :: .long u :: st) I J Q = (¬ w = 0 ∧ Rn S 103 18 [v0, v1, v2, v3, v4, v5, v6, v7, v8, v9, v10] (.long (u - u / w * w) :: st) I J Q) := rRl f103_17
theorem x103_18 : Rn S 103 18 [v0, v1, v2, v3, v4, v5, v6, v7, v8, v9, v10] (.long u :: st) I J Q = Rn S 103 20 [v0, v1, v2, v3, v4, v5, v6, v7, zkl v8, .long u, .null] st I J Q := rL f103_18 rfl rfl
theorem x103_20 : Rn S 103 20 [v0, v1, v2, v3, v4, v5, v6, .long u, v8, v9, v10] st I J Q = Rn S 103 22 [v0, v1, v2, v3, v4, v5, v6, .long u, v8, v9, v10] (.long u :: st) I J Q := rL f103_20 rfl rfl
theorem x103_22 : Rn S 103 22 [v0, v1, v2, v3, v4, v5, v6, v7, v8, v9, v10] (.long u :: st) I J Q = Rn S 103 24 [v0, v1, v2, v3, zkl v4, .long u, .null, v7, v8, v9, v10] st I J Q := rL f103_22 rfl rfl
theorem x103_24 : Rn S 103 24 [v0, v1, v2, v3, v4, v5, v6, v7, v8, .long u, v10] st I J Q = Rn S 103 26 [v0, v1, v2, v3, v4, v5, v6, v7, v8, .long u, v10] (.long u :: st) I J Q := rL f103_24 rfl rfl
theorem x103_26 : Rn S 103 26 [v0, v1, v2, v3, v4, v5, v6, v7, v8, v9, v10] (.long u :: st) I J Q = Rn S 103 28 [v0, v1, v2, v3, v4, v5, zkl v6, .long u, .null, v9, v10] st I J Q := rL f103_26 rfl rfl
theorem x103_28 : Rn S 103 28 [v0, v1, v2, v3, v4, v5, v6, v7, v8, v9, v10] st I J Q = Rn S 103 6 [v0, v1, v2, v3, v4, v5, v6, v7, v8, v9, v10] st I J Q := rB f103_28 rfl rfl rfl
theorem x103_31 : Rn S 103 31 [v0, v1, v2, v3, .int a, v5, v6, v7, v8, v9, v10] st I J Q = Rn S 103 33 [v0, v1, v2, v3, .int a, v5, v6, v7, v8, v9, v10] (.int a :: st) I J Q := rL f103_31 rfl rfl
theorem x103_33 : Rn S 103 33 [v0, v1, v2, v3, v4, v5, v6, v7, v8, v9, v10] (.int a :: st) I J Q = if a = 0 then Rn S 103 36 [v0, v1, v2, v3, v4, v5, v6, v7, v8, v9, v10] st I J Q else Rn S 103 40 [v0, v1, v2, v3, v4, v5, v6, v7, v8, v9, v10] st I J Q := rIne f103_33 rfl rfl
theorem x103_36 : Rn S 103 36 [.long u, v1, v2, v3, v4, v5, v6, v7, v8, v9, v10] st I J Q = Rn S 103 37 [.long u, v1, v2, v3, v4, v5, v6, v7, v8, v9, v10] (.long u :: st) I J Q := rL f103_36 rfl rfl
theorem x103_37 : Rn S 103 37 [v0, v1, v2, v3, v4, v5, v6, v7, v8, v9, v10] st I J Q = Rn S 103 41 [v0, v1, v2, v3, v4, v5, v6, v7, v8, v9, v10] st I J Q := rB f103_37 rfl rfl rfl
theorem x103_40 : Rn S 103 40 [v0, v1, .long u, v3, v4, v5, v6, v7, v8, v9, v10] st I J Q = Rn S 103 41 [v0, v1, .long u, v3, v4, v5, v6, v7, v8, v9, v10] (.long u :: st) I J Q := rL f103_40 rfl rfl
theorem x103_41 : Rn S 103 41 [v0, v1, v2, v3, v4, .long u, v6, v7, v8, v9, v10] st I J Q = Rn S 103 43 [v0, v1, v2, v3, v4, .long u, v6, v7, v8, v9, v10] (.long u :: st) I J Q := rL f103_41 rfl rfl
theorem x103_43 : Rn S 103 43 [v0, v1, v2, v3, v4, v5, v6, v7, v8, v9, v10] (.long w :: .long u :: st) I J Q = (¬ w = 0 ∧ Rn S 103 44 [v0, v1, v2, v3, v4, v5, v6, v7, v8, v9, v10] (.long (u / w) :: st) I J Q) := rDl f103_43
theorem x103_44 : Rn S 103 44 [v0, v1, v2, v3, v4, v5, v6, v7, v8, v9, v10] [.long u] I J Q = Q (some (.long u)) I J := rR f103_44 rfl rfl rfl rfl rfl
/-! X6.finds: 104 -/
theorem B104 : zB 104 = cX6_finds := rfl
theorem f104_0 : zft 104 0 = some (.aload_n 0, 1) := fet B104 (by decide +kernel) (Or.inr rfl)
theorem f104_1 : zft 104 1 = some (.iload_n 1, 1) := fet B104 (by decide +kernel) (Or.inr rfl)
theorem f104_2 : zft 104 2 = some (.putfield 90, 3) := fet B104 (by decide +kernel) (Or.inr rfl)
theorem f104_5 : zft 104 5 = some (.bipush (-10), 2) := fet B104 (by decide +kernel) (Or.inr rfl)
theorem f104_7 : zft 104 7 = some (.iload_n 1, 1) := fet B104 (by decide +kernel) (Or.inr rfl)
theorem f104_8 : zft 104 8 = some (.isub, 1) := fet B104 (by decide +kernel) (Or.inr rfl)
theorem f104_9 : zft 104 9 = some (.ireturn, 1) := fet B104 (by decide +kernel) (Or.inr rfl)
theorem x104_0 : Rn S 104 0 [.ref q, v1] st I J Q = Rn S 104 1 [.ref q, v1] (.ref q :: st) I J Q := rL f104_0 rfl rfl
theorem x104_1 : Rn S 104 1 [v0, .int a] st I J Q = Rn S 104 2 [v0, .int a] (.int a :: st) I J Q := rL f104_1 rfl rfl
theorem x104_2_65 : Rn (zG xl) 104 2 [v0, v1] (.int a :: .ref 65 :: st) I J Q = Rn (zG xl) 104 5 [v0, v1] st (zr I 65 (upd (I 65) 4 a)) J Q := (rPf f104_2 rfl).trans (tr_pf rfl rfl rfl)
theorem x104_5 : Rn S 104 5 [v0, v1] st I J Q = Rn S 104 7 [v0, v1] (.int (-10) :: st) I J Q := rS f104_5 rfl
theorem x104_7 : Rn S 104 7 [v0, .int a] st I J Q = Rn S 104 8 [v0, .int a] (.int a :: st) I J Q := rL f104_7 rfl rfl
theorem x104_8 : Rn S 104 8 [v0, v1] (.int b :: .int a :: st) I J Q = Rn S 104 9 [v0, v1] (.int (a - b) :: st) I J Q := rS f104_8 rfl
theorem x104_9 : Rn S 104 9 [v0, v1] [.int a] I J Q = Q (some (.int a)) I J := rR f104_9 rfl rfl rfl rfl rfl
/-! X6.isSheet: 105 -/
theorem B105 : zB 105 = cX6_isSheet := rfl
theorem f105_0 : zft 105 0 = some (.iload_n 0, 1) := fet B105 (by decide +kernel) (Or.inr rfl)
theorem f105_1 : zft 105 1 = some (.i2l, 1) := fet B105 (by decide +kernel) (Or.inr rfl)
theorem f105_2 : zft 105 2 = some (.lconst 0, 1) := fet B105 (by decide +kernel) (Or.inr rfl)
theorem f105_3 : zft 105 3 = some (.ldc2_w 93, 3) := fet B105 (by decide +kernel) (Or.inr rfl)
theorem f105_6 : zft 105 6 = some (.invokestatic 86, 3) := fet B105 (by decide +kernel) (Or.inr rfl)
theorem f105_9 : zft 105 9 = some (.ireturn, 1) := fet B105 (by decide +kernel) (Or.inr rfl)
theorem x105_0 : Rn S 105 0 [.int a] st I J Q = Rn S 105 1 [.int a] (.int a :: st) I J Q := rL f105_0 rfl rfl
theorem x105_1 : Rn S 105 1 [v0] (.int a :: st) I J Q = Rn S 105 2 [v0] (.long a.toInt64 :: st) I J Q := rS f105_1 rfl
theorem x105_2 : Rn S 105 2 [v0] st I J Q = Rn S 105 3 [v0] (.long 0 :: st) I J Q := rS f105_2 rfl
theorem x105_3 : Rn S 105 3 [v0] st I J Q = Rn S 105 6 [v0] (.long 3 :: st) I J Q := rS f105_3 rfl
theorem x105_6 : Rn S 105 6 [v0] (.long u2 :: .long u1 :: .long u0 :: st) I J Q = (zcs st ≤ 8 ∧ Rn S 96 0 [.long u0, .null, .long u1, .null, .long u2, .null] [] I J (fun v I' J' => Rn S 105 9 [v0] (v.toList ++ st) I' J' Q)) := rCS (As := [.long u0, .long u1, .long u2]) f105_6 rfl rfl rfl rfl (Nat.le_of_ble_eq_true rfl)
theorem x105_9 : Rn S 105 9 [v0] [.int a] I J Q = ((a = 0 ∨ a = 1) ∧ Q (some (.int a)) I J) := rRZ f105_9 (Or.inl rfl)
/-! X6.sheet: 106 -/
theorem B106 : zB 106 = cX6_sheet := rfl
theorem f106_0 : zft 106 0 = some (.iload_n 1, 1) := fet B106 (by decide +kernel) (Or.inr rfl)
theorem f106_1 : zft 106 1 = some (.invokestatic 95, 3) := fet B106 (by decide +kernel) (Or.inr rfl)
theorem f106_4 : zft 106 4 = some (.ifCond .eq 21, 3) := fet B106 (by decide +kernel) (Or.inr rfl)
theorem f106_7 : zft 106 7 = some (.iload_n 2, 1) := fet B106 (by decide +kernel) (Or.inr rfl)
theorem f106_8 : zft 106 8 = some (.i2l, 1) := fet B106 (by decide +kernel) (Or.inr rfl)
theorem f106_9 : zft 106 9 = some (.lconst 0, 1) := fet B106 (by decide +kernel) (Or.inr rfl)
theorem f106_10 : zft 106 10 = some (.ldc2_w 99, 3) := fet B106 (by decide +kernel) (Or.inr rfl)
theorem f106_13 : zft 106 13 = some (.invokestatic 86, 3) := fet B106 (by decide +kernel) (Or.inr rfl)
theorem f106_16 : zft 106 16 = some (.ifCond .eq 9, 3) := fet B106 (by decide +kernel) (Or.inr rfl)
theorem f106_19 : zft 106 19 = some (.iload_n 3, 1) := fet B106 (by decide +kernel) (Or.inr rfl)
theorem f106_20 : zft 106 20 = some (.bipush 60, 2) := fet B106 (by decide +kernel) (Or.inr rfl)
theorem f106_22 : zft 106 22 = some (.if_icmp .le 6, 3) := fet B106 (by decide +kernel) (Or.inr rfl)
theorem f106_25 : zft 106 25 = some (.bipush (-2), 2) := fet B106 (by decide +kernel) (Or.inr rfl)
theorem f106_27 : zft 106 27 = some (.ireturn, 1) := fet B106 (by decide +kernel) (Or.inr rfl)
theorem f106_28 : zft 106 28 = some (.iload_n 3, 1) := fet B106 (by decide +kernel) (Or.inr rfl)
theorem f106_29 : zft 106 29 = some (.ifCond .ge 9, 3) := fet B106 (by decide +kernel) (Or.inr rfl)
theorem f106_32 : zft 106 32 = some (.aload_n 0, 1) := fet B106 (by decide +kernel) (Or.inr rfl)
theorem f106_33 : zft 106 33 = some (.iconst 5, 1) := fet B106 (by decide +kernel) (Or.inr rfl)
theorem f106_34 : zft 106 34 = some (.invokevirtual 101, 3) := fet B106 (by decide +kernel) (Or.inr rfl)
theorem f106_37 : zft 106 37 = some (.ireturn, 1) := fet B106 (by decide +kernel) (Or.inr rfl)
theorem f106_38 : zft 106 38 = some (.aload_n 0, 1) := fet B106 (by decide +kernel) (Or.inr rfl)
theorem f106_39 : zft 106 39 = some (.getfield 7, 3) := fet B106 (by decide +kernel) (Or.inr rfl)
theorem f106_42 : zft 106 42 = some (.iload_n 1, 1) := fet B106 (by decide +kernel) (Or.inr rfl)
theorem f106_43 : zft 106 43 = some (.iload_n 2, 1) := fet B106 (by decide +kernel) (Or.inr rfl)
theorem f106_44 : zft 106 44 = some (.iastore, 1) := fet B106 (by decide +kernel) (Or.inr rfl)
theorem f106_45 : zft 106 45 = some (.aload_n 0, 1) := fet B106 (by decide +kernel) (Or.inr rfl)
theorem f106_46 : zft 106 46 = some (.getfield 13, 3) := fet B106 (by decide +kernel) (Or.inr rfl)
theorem f106_49 : zft 106 49 = some (.iload_n 1, 1) := fet B106 (by decide +kernel) (Or.inr rfl)
theorem f106_50 : zft 106 50 = some (.iload_n 3, 1) := fet B106 (by decide +kernel) (Or.inr rfl)
theorem f106_51 : zft 106 51 = some (.iastore, 1) := fet B106 (by decide +kernel) (Or.inr rfl)
theorem f106_52 : zft 106 52 = some (.iconst 0, 1) := fet B106 (by decide +kernel) (Or.inr rfl)
theorem f106_53 : zft 106 53 = some (.istore 4, 2) := fet B106 (by decide +kernel) (Or.inr rfl)
theorem f106_55 : zft 106 55 = some (.iload 4, 2) := fet B106 (by decide +kernel) (Or.inr rfl)
theorem f106_57 : zft 106 57 = some (.iload_n 3, 1) := fet B106 (by decide +kernel) (Or.inr rfl)
theorem f106_58 : zft 106 58 = some (.if_icmp .ge 22, 3) := fet B106 (by decide +kernel) (Or.inr rfl)
theorem f106_61 : zft 106 61 = some (.aload_n 0, 1) := fet B106 (by decide +kernel) (Or.inr rfl)
theorem f106_62 : zft 106 62 = some (.getfield 16, 3) := fet B106 (by decide +kernel) (Or.inr rfl)
theorem f106_65 : zft 106 65 = some (.bipush 60, 2) := fet B106 (by decide +kernel) (Or.inr rfl)
theorem f106_67 : zft 106 67 = some (.iload_n 1, 1) := fet B106 (by decide +kernel) (Or.inr rfl)
theorem f106_68 : zft 106 68 = some (.imul, 1) := fet B106 (by decide +kernel) (Or.inr rfl)
theorem f106_69 : zft 106 69 = some (.iload 4, 2) := fet B106 (by decide +kernel) (Or.inr rfl)
theorem f106_71 : zft 106 71 = some (.iadd, 1) := fet B106 (by decide +kernel) (Or.inr rfl)
theorem f106_72 : zft 106 72 = some (.iconst 0, 1) := fet B106 (by decide +kernel) (Or.inr rfl)
theorem f106_73 : zft 106 73 = some (.iastore, 1) := fet B106 (by decide +kernel) (Or.inr rfl)
theorem f106_74 : zft 106 74 = some (.iinc 4 1, 3) := fet B106 (by decide +kernel) (Or.inr rfl)
theorem f106_77 : zft 106 77 = some (.goto (-22), 3) := fet B106 (by decide +kernel) (Or.inr rfl)
theorem f106_80 : zft 106 80 = some (.iload_n 3, 1) := fet B106 (by decide +kernel) (Or.inr rfl)
theorem f106_81 : zft 106 81 = some (.ireturn, 1) := fet B106 (by decide +kernel) (Or.inr rfl)
theorem x106_0 : Rn S 106 0 [v0, .int a, v2, v3, v4] st I J Q = Rn S 106 1 [v0, .int a, v2, v3, v4] (.int a :: st) I J Q := rL f106_0 rfl rfl
theorem x106_1 : Rn S 106 1 [v0, v1, v2, v3, v4] (.int a0 :: st) I J Q = (zcs st ≤ 8 ∧ Rn S 105 0 [.int a0] [] I J (fun v I' J' => Rn S 106 4 [v0, v1, v2, v3, v4] (v.toList ++ st) I' J' Q)) := rCS (As := [.int a0]) f106_1 rfl rfl rfl rfl (Nat.le_of_ble_eq_true rfl)
theorem x106_4 : Rn S 106 4 [v0, v1, v2, v3, v4] (.int a :: st) I J Q = if a = 0 then Rn S 106 25 [v0, v1, v2, v3, v4] st I J Q else Rn S 106 7 [v0, v1, v2, v3, v4] st I J Q := rIeq f106_4 rfl rfl
theorem x106_7 : Rn S 106 7 [v0, v1, .int a, v3, v4] st I J Q = Rn S 106 8 [v0, v1, .int a, v3, v4] (.int a :: st) I J Q := rL f106_7 rfl rfl
theorem x106_8 : Rn S 106 8 [v0, v1, v2, v3, v4] (.int a :: st) I J Q = Rn S 106 9 [v0, v1, v2, v3, v4] (.long a.toInt64 :: st) I J Q := rS f106_8 rfl
theorem x106_9 : Rn S 106 9 [v0, v1, v2, v3, v4] st I J Q = Rn S 106 10 [v0, v1, v2, v3, v4] (.long 0 :: st) I J Q := rS f106_9 rfl
theorem x106_10 : Rn S 106 10 [v0, v1, v2, v3, v4] st I J Q = Rn S 106 13 [v0, v1, v2, v3, v4] (.long 2 :: st) I J Q := rS f106_10 rfl
theorem x106_13 : Rn S 106 13 [v0, v1, v2, v3, v4] (.long u2 :: .long u1 :: .long u0 :: st) I J Q = (zcs st ≤ 8 ∧ Rn S 96 0 [.long u0, .null, .long u1, .null, .long u2, .null] [] I J (fun v I' J' => Rn S 106 16 [v0, v1, v2, v3, v4] (v.toList ++ st) I' J' Q)) := rCS (As := [.long u0, .long u1, .long u2]) f106_13 rfl rfl rfl rfl (Nat.le_of_ble_eq_true rfl)
theorem x106_16 : Rn S 106 16 [v0, v1, v2, v3, v4] (.int a :: st) I J Q = if a = 0 then Rn S 106 25 [v0, v1, v2, v3, v4] st I J Q else Rn S 106 19 [v0, v1, v2, v3, v4] st I J Q := rIeq f106_16 rfl rfl
theorem x106_19 : Rn S 106 19 [v0, v1, v2, .int a, v4] st I J Q = Rn S 106 20 [v0, v1, v2, .int a, v4] (.int a :: st) I J Q := rL f106_19 rfl rfl
theorem x106_20 : Rn S 106 20 [v0, v1, v2, v3, v4] st I J Q = Rn S 106 22 [v0, v1, v2, v3, v4] (.int 60 :: st) I J Q := rS f106_20 rfl
theorem x106_22 : Rn S 106 22 [v0, v1, v2, v3, v4] (.int b :: .int a :: st) I J Q = if b < a then Rn S 106 25 [v0, v1, v2, v3, v4] st I J Q else Rn S 106 28 [v0, v1, v2, v3, v4] st I J Q := rCle f106_22 rfl rfl
theorem x106_25 : Rn S 106 25 [v0, v1, v2, v3, v4] st I J Q = Rn S 106 27 [v0, v1, v2, v3, v4] (.int (-2) :: st) I J Q := rS f106_25 rfl
theorem x106_27 : Rn S 106 27 [v0, v1, v2, v3, v4] [.int a] I J Q = Q (some (.int a)) I J := rR f106_27 rfl rfl rfl rfl rfl
theorem x106_28 : Rn S 106 28 [v0, v1, v2, .int a, v4] st I J Q = Rn S 106 29 [v0, v1, v2, .int a, v4] (.int a :: st) I J Q := rL f106_28 rfl rfl
theorem x106_29 : Rn S 106 29 [v0, v1, v2, v3, v4] (.int a :: st) I J Q = if a < 0 then Rn S 106 32 [v0, v1, v2, v3, v4] st I J Q else Rn S 106 38 [v0, v1, v2, v3, v4] st I J Q := rIge f106_29 rfl rfl
theorem x106_32 : Rn S 106 32 [.ref q, v1, v2, v3, v4] st I J Q = Rn S 106 33 [.ref q, v1, v2, v3, v4] (.ref q :: st) I J Q := rL f106_32 rfl rfl
theorem x106_33 : Rn S 106 33 [v0, v1, v2, v3, v4] st I J Q = Rn S 106 34 [v0, v1, v2, v3, v4] (.int 5 :: st) I J Q := rS f106_33 rfl
theorem x106_34 : Rn S 106 34 [v0, v1, v2, v3, v4] (.int a0 :: .ref q :: st) I J Q = ((zcls S q = 6 ∧ zcs st ≤ 8) ∧ Rn S 104 0 [.ref q, .int a0] [] I J (fun v I' J' => Rn S 106 37 [v0, v1, v2, v3, v4] (v.toList ++ st) I' J' Q)) := rCV (As := [.int a0]) f106_34 rfl rfl rfl rfl (Nat.le_of_ble_eq_true rfl)
theorem x106_37 : Rn S 106 37 [v0, v1, v2, v3, v4] [.int a] I J Q = Q (some (.int a)) I J := rR f106_37 rfl rfl rfl rfl rfl
theorem x106_38 : Rn S 106 38 [.ref q, v1, v2, v3, v4] st I J Q = Rn S 106 39 [.ref q, v1, v2, v3, v4] (.ref q :: st) I J Q := rL f106_38 rfl rfl
theorem x106_39_65 : Rn (zG xl) 106 39 [v0, v1, v2, v3, v4] (.ref 65 :: st) I J Q = Rn (zG xl) 106 42 [v0, v1, v2, v3, v4] (.ref 66 :: st) I J Q := (rGf f106_39 rfl).trans (tr_and rfl)
theorem x106_42 : Rn S 106 42 [v0, .int a, v2, v3, v4] st I J Q = Rn S 106 43 [v0, .int a, v2, v3, v4] (.int a :: st) I J Q := rL f106_42 rfl rfl
theorem x106_43 : Rn S 106 43 [v0, v1, .int a, v3, v4] st I J Q = Rn S 106 44 [v0, v1, .int a, v3, v4] (.int a :: st) I J Q := rL f106_43 rfl rfl
theorem x106_44 : Rn S 106 44 [v0, v1, v2, v3, v4] (.int b :: .int a :: .ref q :: st) I J Q = (zas S q a ∧ Rn S 106 45 [v0, v1, v2, v3, v4] st (zr I q (upd (I q) a.toNatClampNeg b)) J Q) := rIas f106_44
theorem x106_45 : Rn S 106 45 [.ref q, v1, v2, v3, v4] st I J Q = Rn S 106 46 [.ref q, v1, v2, v3, v4] (.ref q :: st) I J Q := rL f106_45 rfl rfl
theorem x106_46_65 : Rn (zG xl) 106 46 [v0, v1, v2, v3, v4] (.ref 65 :: st) I J Q = Rn (zG xl) 106 49 [v0, v1, v2, v3, v4] (.ref 67 :: st) I J Q := (rGf f106_46 rfl).trans (tr_and rfl)
theorem x106_49 : Rn S 106 49 [v0, .int a, v2, v3, v4] st I J Q = Rn S 106 50 [v0, .int a, v2, v3, v4] (.int a :: st) I J Q := rL f106_49 rfl rfl
theorem x106_50 : Rn S 106 50 [v0, v1, v2, .int a, v4] st I J Q = Rn S 106 51 [v0, v1, v2, .int a, v4] (.int a :: st) I J Q := rL f106_50 rfl rfl
theorem x106_51 : Rn S 106 51 [v0, v1, v2, v3, v4] (.int b :: .int a :: .ref q :: st) I J Q = (zas S q a ∧ Rn S 106 52 [v0, v1, v2, v3, v4] st (zr I q (upd (I q) a.toNatClampNeg b)) J Q) := rIas f106_51
theorem x106_52 : Rn S 106 52 [v0, v1, v2, v3, v4] st I J Q = Rn S 106 53 [v0, v1, v2, v3, v4] (.int 0 :: st) I J Q := rS f106_52 rfl
theorem x106_53 : Rn S 106 53 [v0, v1, v2, v3, v4] (.int a :: st) I J Q = Rn S 106 55 [v0, v1, v2, zkl v3, .int a] st I J Q := rL f106_53 rfl rfl
theorem h106_55 : Rn S 106 55 [v0, v1, v2, v3, .int a] st I J Q = Rn S 106 57 [v0, v1, v2, v3, .int a] (.int a :: st) I J Q := rL f106_55 rfl rfl
theorem x106_57 : Rn S 106 57 [v0, v1, v2, .int a, v4] st I J Q = Rn S 106 58 [v0, v1, v2, .int a, v4] (.int a :: st) I J Q := rL f106_57 rfl rfl
theorem x106_58 : Rn S 106 58 [v0, v1, v2, v3, v4] (.int b :: .int a :: st) I J Q = if a < b then Rn S 106 61 [v0, v1, v2, v3, v4] st I J Q else Rn S 106 80 [v0, v1, v2, v3, v4] st I J Q := rCge f106_58 rfl rfl
theorem x106_61 : Rn S 106 61 [.ref q, v1, v2, v3, v4] st I J Q = Rn S 106 62 [.ref q, v1, v2, v3, v4] (.ref q :: st) I J Q := rL f106_61 rfl rfl
theorem x106_62_65 : Rn (zG xl) 106 62 [v0, v1, v2, v3, v4] (.ref 65 :: st) I J Q = Rn (zG xl) 106 65 [v0, v1, v2, v3, v4] (.ref 68 :: st) I J Q := (rGf f106_62 rfl).trans (tr_and rfl)
theorem x106_65 : Rn S 106 65 [v0, v1, v2, v3, v4] st I J Q = Rn S 106 67 [v0, v1, v2, v3, v4] (.int 60 :: st) I J Q := rS f106_65 rfl
theorem x106_67 : Rn S 106 67 [v0, .int a, v2, v3, v4] st I J Q = Rn S 106 68 [v0, .int a, v2, v3, v4] (.int a :: st) I J Q := rL f106_67 rfl rfl
theorem x106_68 : Rn S 106 68 [v0, v1, v2, v3, v4] (.int b :: .int a :: st) I J Q = Rn S 106 69 [v0, v1, v2, v3, v4] (.int (a * b) :: st) I J Q := rS f106_68 rfl
theorem x106_69 : Rn S 106 69 [v0, v1, v2, v3, .int a] st I J Q = Rn S 106 71 [v0, v1, v2, v3, .int a] (.int a :: st) I J Q := rL f106_69 rfl rfl
theorem x106_71 : Rn S 106 71 [v0, v1, v2, v3, v4] (.int b :: .int a :: st) I J Q = Rn S 106 72 [v0, v1, v2, v3, v4] (.int (a + b) :: st) I J Q := rS f106_71 rfl
theorem x106_72 : Rn S 106 72 [v0, v1, v2, v3, v4] st I J Q = Rn S 106 73 [v0, v1, v2, v3, v4] (.int 0 :: st) I J Q := rS f106_72 rfl
theorem x106_73 : Rn S 106 73 [v0, v1, v2, v3, v4] (.int b :: .int a :: .ref q :: st) I J Q = (zas S q a ∧ Rn S 106 74 [v0, v1, v2, v3, v4] st (zr I q (upd (I q) a.toNatClampNeg b)) J Q) := rIas f106_73
theorem x106_74 : Rn S 106 74 [v0, v1, v2, v3, .int a] st I J Q = Rn S 106 77 [v0, v1, v2, zkl v3, .int (a + 1)] st I J Q := rL f106_74 rfl rfl
theorem x106_77 : Rn S 106 77 [v0, v1, v2, v3, v4] st I J Q = Rn S 106 55 [v0, v1, v2, v3, v4] st I J Q := rB f106_77 rfl rfl rfl
theorem x106_80 : Rn S 106 80 [v0, v1, v2, .int a, v4] st I J Q = Rn S 106 81 [v0, v1, v2, .int a, v4] (.int a :: st) I J Q := rL f106_80 rfl rfl
theorem x106_81 : Rn S 106 81 [v0, v1, v2, v3, v4] [.int a] I J Q = Q (some (.int a)) I J := rR f106_81 rfl rfl rfl rfl rfl
/-! X6.lose: 107 -/
theorem B107 : zB 107 = cX6_lose := rfl
theorem f107_0 : zft 107 0 = some (.iload_n 1, 1) := fet B107 (by decide +kernel) (Or.inr rfl)
theorem f107_1 : zft 107 1 = some (.invokestatic 95, 3) := fet B107 (by decide +kernel) (Or.inr rfl)
theorem f107_4 : zft 107 4 = some (.ifCond .ne 6, 3) := fet B107 (by decide +kernel) (Or.inr rfl)
theorem f107_7 : zft 107 7 = some (.bipush (-2), 2) := fet B107 (by decide +kernel) (Or.inr rfl)
theorem f107_9 : zft 107 9 = some (.ireturn, 1) := fet B107 (by decide +kernel) (Or.inr rfl)
theorem f107_10 : zft 107 10 = some (.aload_n 0, 1) := fet B107 (by decide +kernel) (Or.inr rfl)
theorem f107_11 : zft 107 11 = some (.getfield 7, 3) := fet B107 (by decide +kernel) (Or.inr rfl)
theorem f107_14 : zft 107 14 = some (.iload_n 1, 1) := fet B107 (by decide +kernel) (Or.inr rfl)
theorem f107_15 : zft 107 15 = some (.iaload, 1) := fet B107 (by decide +kernel) (Or.inr rfl)
theorem f107_16 : zft 107 16 = some (.ifCond .ge 9, 3) := fet B107 (by decide +kernel) (Or.inr rfl)
theorem f107_19 : zft 107 19 = some (.aload_n 0, 1) := fet B107 (by decide +kernel) (Or.inr rfl)
theorem f107_20 : zft 107 20 = some (.iconst 1, 1) := fet B107 (by decide +kernel) (Or.inr rfl)
theorem f107_21 : zft 107 21 = some (.invokevirtual 101, 3) := fet B107 (by decide +kernel) (Or.inr rfl)
theorem f107_24 : zft 107 24 = some (.ireturn, 1) := fet B107 (by decide +kernel) (Or.inr rfl)
theorem f107_25 : zft 107 25 = some (.aload_n 0, 1) := fet B107 (by decide +kernel) (Or.inr rfl)
theorem f107_26 : zft 107 26 = some (.getfield 7, 3) := fet B107 (by decide +kernel) (Or.inr rfl)
theorem f107_29 : zft 107 29 = some (.iload_n 1, 1) := fet B107 (by decide +kernel) (Or.inr rfl)
theorem f107_30 : zft 107 30 = some (.iconst (-1), 1) := fet B107 (by decide +kernel) (Or.inr rfl)
theorem f107_31 : zft 107 31 = some (.iastore, 1) := fet B107 (by decide +kernel) (Or.inr rfl)
theorem f107_32 : zft 107 32 = some (.aload_n 0, 1) := fet B107 (by decide +kernel) (Or.inr rfl)
theorem f107_33 : zft 107 33 = some (.getfield 13, 3) := fet B107 (by decide +kernel) (Or.inr rfl)
theorem f107_36 : zft 107 36 = some (.iload_n 1, 1) := fet B107 (by decide +kernel) (Or.inr rfl)
theorem f107_37 : zft 107 37 = some (.iaload, 1) := fet B107 (by decide +kernel) (Or.inr rfl)
theorem f107_38 : zft 107 38 = some (.ireturn, 1) := fet B107 (by decide +kernel) (Or.inr rfl)
theorem x107_0 : Rn S 107 0 [v0, .int a] st I J Q = Rn S 107 1 [v0, .int a] (.int a :: st) I J Q := rL f107_0 rfl rfl
theorem x107_1 : Rn S 107 1 [v0, v1] (.int a0 :: st) I J Q = (zcs st ≤ 8 ∧ Rn S 105 0 [.int a0] [] I J (fun v I' J' => Rn S 107 4 [v0, v1] (v.toList ++ st) I' J' Q)) := rCS (As := [.int a0]) f107_1 rfl rfl rfl rfl (Nat.le_of_ble_eq_true rfl)
theorem x107_4 : Rn S 107 4 [v0, v1] (.int a :: st) I J Q = if a = 0 then Rn S 107 7 [v0, v1] st I J Q else Rn S 107 10 [v0, v1] st I J Q := rIne f107_4 rfl rfl
theorem x107_7 : Rn S 107 7 [v0, v1] st I J Q = Rn S 107 9 [v0, v1] (.int (-2) :: st) I J Q := rS f107_7 rfl
theorem x107_9 : Rn S 107 9 [v0, v1] [.int a] I J Q = Q (some (.int a)) I J := rR f107_9 rfl rfl rfl rfl rfl
theorem x107_10 : Rn S 107 10 [.ref q, v1] st I J Q = Rn S 107 11 [.ref q, v1] (.ref q :: st) I J Q := rL f107_10 rfl rfl
theorem x107_11_65 : Rn (zG xl) 107 11 [v0, v1] (.ref 65 :: st) I J Q = Rn (zG xl) 107 14 [v0, v1] (.ref 66 :: st) I J Q := (rGf f107_11 rfl).trans (tr_and rfl)
theorem x107_14 : Rn S 107 14 [v0, .int a] st I J Q = Rn S 107 15 [v0, .int a] (.int a :: st) I J Q := rL f107_14 rfl rfl
theorem x107_15 : Rn S 107 15 [v0, v1] (.int a :: .ref q :: st) I J Q = (zai S q a ∧ Rn S 107 16 [v0, v1] (.int (I q a.toNatClampNeg) :: st) I J Q) := rIal f107_15
theorem x107_16 : Rn S 107 16 [v0, v1] (.int a :: st) I J Q = if a < 0 then Rn S 107 19 [v0, v1] st I J Q else Rn S 107 25 [v0, v1] st I J Q := rIge f107_16 rfl rfl
theorem x107_19 : Rn S 107 19 [.ref q, v1] st I J Q = Rn S 107 20 [.ref q, v1] (.ref q :: st) I J Q := rL f107_19 rfl rfl
theorem x107_20 : Rn S 107 20 [v0, v1] st I J Q = Rn S 107 21 [v0, v1] (.int 1 :: st) I J Q := rS f107_20 rfl
theorem x107_21 : Rn S 107 21 [v0, v1] (.int a0 :: .ref q :: st) I J Q = ((zcls S q = 6 ∧ zcs st ≤ 8) ∧ Rn S 104 0 [.ref q, .int a0] [] I J (fun v I' J' => Rn S 107 24 [v0, v1] (v.toList ++ st) I' J' Q)) := rCV (As := [.int a0]) f107_21 rfl rfl rfl rfl (Nat.le_of_ble_eq_true rfl)
theorem x107_24 : Rn S 107 24 [v0, v1] [.int a] I J Q = Q (some (.int a)) I J := rR f107_24 rfl rfl rfl rfl rfl
theorem x107_25 : Rn S 107 25 [.ref q, v1] st I J Q = Rn S 107 26 [.ref q, v1] (.ref q :: st) I J Q := rL f107_25 rfl rfl
theorem x107_26_65 : Rn (zG xl) 107 26 [v0, v1] (.ref 65 :: st) I J Q = Rn (zG xl) 107 29 [v0, v1] (.ref 66 :: st) I J Q := (rGf f107_26 rfl).trans (tr_and rfl)
theorem x107_29 : Rn S 107 29 [v0, .int a] st I J Q = Rn S 107 30 [v0, .int a] (.int a :: st) I J Q := rL f107_29 rfl rfl
theorem x107_30 : Rn S 107 30 [v0, v1] st I J Q = Rn S 107 31 [v0, v1] (.int (-1) :: st) I J Q := rS f107_30 rfl
theorem x107_31 : Rn S 107 31 [v0, v1] (.int b :: .int a :: .ref q :: st) I J Q = (zas S q a ∧ Rn S 107 32 [v0, v1] st (zr I q (upd (I q) a.toNatClampNeg b)) J Q) := rIas f107_31
theorem x107_32 : Rn S 107 32 [.ref q, v1] st I J Q = Rn S 107 33 [.ref q, v1] (.ref q :: st) I J Q := rL f107_32 rfl rfl
theorem x107_33_65 : Rn (zG xl) 107 33 [v0, v1] (.ref 65 :: st) I J Q = Rn (zG xl) 107 36 [v0, v1] (.ref 67 :: st) I J Q := (rGf f107_33 rfl).trans (tr_and rfl)
theorem x107_36 : Rn S 107 36 [v0, .int a] st I J Q = Rn S 107 37 [v0, .int a] (.int a :: st) I J Q := rL f107_36 rfl rfl
theorem x107_37 : Rn S 107 37 [v0, v1] (.int a :: .ref q :: st) I J Q = (zai S q a ∧ Rn S 107 38 [v0, v1] (.int (I q a.toNatClampNeg) :: st) I J Q) := rIal f107_37
theorem x107_38 : Rn S 107 38 [v0, v1] [.int a] I J Q = Q (some (.int a)) I J := rR f107_38 rfl rfl rfl rfl rfl
/-! X6.lacks: 108 -/
theorem B108 : zB 108 = cX6_lacks := rfl
theorem f108_0 : zft 108 0 = some (.aload_n 0, 1) := fet B108 (by decide +kernel) (Or.inr rfl)
theorem f108_1 : zft 108 1 = some (.getfield 7, 3) := fet B108 (by decide +kernel) (Or.inr rfl)
theorem f108_4 : zft 108 4 = some (.iload_n 1, 1) := fet B108 (by decide +kernel) (Or.inr rfl)
theorem f108_5 : zft 108 5 = some (.iaload, 1) := fet B108 (by decide +kernel) (Or.inr rfl)
theorem f108_6 : zft 108 6 = some (.ifCond .ge 9, 3) := fet B108 (by decide +kernel) (Or.inr rfl)
theorem f108_9 : zft 108 9 = some (.aload_n 0, 1) := fet B108 (by decide +kernel) (Or.inr rfl)
theorem f108_10 : zft 108 10 = some (.iconst 1, 1) := fet B108 (by decide +kernel) (Or.inr rfl)
theorem f108_11 : zft 108 11 = some (.invokevirtual 101, 3) := fet B108 (by decide +kernel) (Or.inr rfl)
theorem f108_14 : zft 108 14 = some (.ireturn, 1) := fet B108 (by decide +kernel) (Or.inr rfl)
theorem f108_15 : zft 108 15 = some (.aload_n 0, 1) := fet B108 (by decide +kernel) (Or.inr rfl)
theorem f108_16 : zft 108 16 = some (.getfield 7, 3) := fet B108 (by decide +kernel) (Or.inr rfl)
theorem f108_19 : zft 108 19 = some (.iload_n 1, 1) := fet B108 (by decide +kernel) (Or.inr rfl)
theorem f108_20 : zft 108 20 = some (.iaload, 1) := fet B108 (by decide +kernel) (Or.inr rfl)
theorem f108_21 : zft 108 21 = some (.iload_n 2, 1) := fet B108 (by decide +kernel) (Or.inr rfl)
theorem f108_22 : zft 108 22 = some (.if_icmp .eq 9, 3) := fet B108 (by decide +kernel) (Or.inr rfl)
theorem f108_25 : zft 108 25 = some (.aload_n 0, 1) := fet B108 (by decide +kernel) (Or.inr rfl)
theorem f108_26 : zft 108 26 = some (.iconst 3, 1) := fet B108 (by decide +kernel) (Or.inr rfl)
theorem f108_27 : zft 108 27 = some (.invokevirtual 101, 3) := fet B108 (by decide +kernel) (Or.inr rfl)
theorem f108_30 : zft 108 30 = some (.ireturn, 1) := fet B108 (by decide +kernel) (Or.inr rfl)
theorem f108_31 : zft 108 31 = some (.iload_n 3, 1) := fet B108 (by decide +kernel) (Or.inr rfl)
theorem f108_32 : zft 108 32 = some (.i2l, 1) := fet B108 (by decide +kernel) (Or.inr rfl)
theorem f108_33 : zft 108 33 = some (.lconst 0, 1) := fet B108 (by decide +kernel) (Or.inr rfl)
theorem f108_34 : zft 108 34 = some (.aload_n 0, 1) := fet B108 (by decide +kernel) (Or.inr rfl)
theorem f108_35 : zft 108 35 = some (.getfield 13, 3) := fet B108 (by decide +kernel) (Or.inr rfl)
theorem f108_38 : zft 108 38 = some (.iload_n 1, 1) := fet B108 (by decide +kernel) (Or.inr rfl)
theorem f108_39 : zft 108 39 = some (.iaload, 1) := fet B108 (by decide +kernel) (Or.inr rfl)
theorem f108_40 : zft 108 40 = some (.iconst 1, 1) := fet B108 (by decide +kernel) (Or.inr rfl)
theorem f108_41 : zft 108 41 = some (.isub, 1) := fet B108 (by decide +kernel) (Or.inr rfl)
theorem f108_42 : zft 108 42 = some (.i2l, 1) := fet B108 (by decide +kernel) (Or.inr rfl)
theorem f108_43 : zft 108 43 = some (.invokestatic 86, 3) := fet B108 (by decide +kernel) (Or.inr rfl)
theorem f108_46 : zft 108 46 = some (.ifCond .eq 7, 3) := fet B108 (by decide +kernel) (Or.inr rfl)
theorem f108_49 : zft 108 49 = some (.iconst 0, 1) := fet B108 (by decide +kernel) (Or.inr rfl)
theorem f108_50 : zft 108 50 = some (.goto 8, 3) := fet B108 (by decide +kernel) (Or.inr rfl)
theorem f108_53 : zft 108 53 = some (.aload_n 0, 1) := fet B108 (by decide +kernel) (Or.inr rfl)
theorem f108_54 : zft 108 54 = some (.iconst 2, 1) := fet B108 (by decide +kernel) (Or.inr rfl)
theorem f108_55 : zft 108 55 = some (.invokevirtual 101, 3) := fet B108 (by decide +kernel) (Or.inr rfl)
theorem f108_58 : zft 108 58 = some (.ireturn, 1) := fet B108 (by decide +kernel) (Or.inr rfl)
theorem x108_0 : Rn S 108 0 [.ref q, v1, v2, v3] st I J Q = Rn S 108 1 [.ref q, v1, v2, v3] (.ref q :: st) I J Q := rL f108_0 rfl rfl
theorem x108_1_65 : Rn (zG xl) 108 1 [v0, v1, v2, v3] (.ref 65 :: st) I J Q = Rn (zG xl) 108 4 [v0, v1, v2, v3] (.ref 66 :: st) I J Q := (rGf f108_1 rfl).trans (tr_and rfl)
theorem x108_4 : Rn S 108 4 [v0, .int a, v2, v3] st I J Q = Rn S 108 5 [v0, .int a, v2, v3] (.int a :: st) I J Q := rL f108_4 rfl rfl
theorem x108_5 : Rn S 108 5 [v0, v1, v2, v3] (.int a :: .ref q :: st) I J Q = (zai S q a ∧ Rn S 108 6 [v0, v1, v2, v3] (.int (I q a.toNatClampNeg) :: st) I J Q) := rIal f108_5
theorem x108_6 : Rn S 108 6 [v0, v1, v2, v3] (.int a :: st) I J Q = if a < 0 then Rn S 108 9 [v0, v1, v2, v3] st I J Q else Rn S 108 15 [v0, v1, v2, v3] st I J Q := rIge f108_6 rfl rfl
theorem x108_9 : Rn S 108 9 [.ref q, v1, v2, v3] st I J Q = Rn S 108 10 [.ref q, v1, v2, v3] (.ref q :: st) I J Q := rL f108_9 rfl rfl
theorem x108_10 : Rn S 108 10 [v0, v1, v2, v3] st I J Q = Rn S 108 11 [v0, v1, v2, v3] (.int 1 :: st) I J Q := rS f108_10 rfl
theorem x108_11 : Rn S 108 11 [v0, v1, v2, v3] (.int a0 :: .ref q :: st) I J Q = ((zcls S q = 6 ∧ zcs st ≤ 8) ∧ Rn S 104 0 [.ref q, .int a0] [] I J (fun v I' J' => Rn S 108 14 [v0, v1, v2, v3] (v.toList ++ st) I' J' Q)) := rCV (As := [.int a0]) f108_11 rfl rfl rfl rfl (Nat.le_of_ble_eq_true rfl)
theorem x108_14 : Rn S 108 14 [v0, v1, v2, v3] [.int a] I J Q = Q (some (.int a)) I J := rR f108_14 rfl rfl rfl rfl rfl
theorem x108_15 : Rn S 108 15 [.ref q, v1, v2, v3] st I J Q = Rn S 108 16 [.ref q, v1, v2, v3] (.ref q :: st) I J Q := rL f108_15 rfl rfl
theorem x108_16_65 : Rn (zG xl) 108 16 [v0, v1, v2, v3] (.ref 65 :: st) I J Q = Rn (zG xl) 108 19 [v0, v1, v2, v3] (.ref 66 :: st) I J Q := (rGf f108_16 rfl).trans (tr_and rfl)
theorem x108_19 : Rn S 108 19 [v0, .int a, v2, v3] st I J Q = Rn S 108 20 [v0, .int a, v2, v3] (.int a :: st) I J Q := rL f108_19 rfl rfl
theorem x108_20 : Rn S 108 20 [v0, v1, v2, v3] (.int a :: .ref q :: st) I J Q = (zai S q a ∧ Rn S 108 21 [v0, v1, v2, v3] (.int (I q a.toNatClampNeg) :: st) I J Q) := rIal f108_20
theorem x108_21 : Rn S 108 21 [v0, v1, .int a, v3] st I J Q = Rn S 108 22 [v0, v1, .int a, v3] (.int a :: st) I J Q := rL f108_21 rfl rfl
theorem x108_22 : Rn S 108 22 [v0, v1, v2, v3] (.int b :: .int a :: st) I J Q = if a = b then Rn S 108 31 [v0, v1, v2, v3] st I J Q else Rn S 108 25 [v0, v1, v2, v3] st I J Q := rCeq f108_22 rfl rfl
theorem x108_25 : Rn S 108 25 [.ref q, v1, v2, v3] st I J Q = Rn S 108 26 [.ref q, v1, v2, v3] (.ref q :: st) I J Q := rL f108_25 rfl rfl
theorem x108_26 : Rn S 108 26 [v0, v1, v2, v3] st I J Q = Rn S 108 27 [v0, v1, v2, v3] (.int 3 :: st) I J Q := rS f108_26 rfl
theorem x108_27 : Rn S 108 27 [v0, v1, v2, v3] (.int a0 :: .ref q :: st) I J Q = ((zcls S q = 6 ∧ zcs st ≤ 8) ∧ Rn S 104 0 [.ref q, .int a0] [] I J (fun v I' J' => Rn S 108 30 [v0, v1, v2, v3] (v.toList ++ st) I' J' Q)) := rCV (As := [.int a0]) f108_27 rfl rfl rfl rfl (Nat.le_of_ble_eq_true rfl)
theorem x108_30 : Rn S 108 30 [v0, v1, v2, v3] [.int a] I J Q = Q (some (.int a)) I J := rR f108_30 rfl rfl rfl rfl rfl
theorem x108_31 : Rn S 108 31 [v0, v1, v2, .int a] st I J Q = Rn S 108 32 [v0, v1, v2, .int a] (.int a :: st) I J Q := rL f108_31 rfl rfl
theorem x108_32 : Rn S 108 32 [v0, v1, v2, v3] (.int a :: st) I J Q = Rn S 108 33 [v0, v1, v2, v3] (.long a.toInt64 :: st) I J Q := rS f108_32 rfl
theorem x108_33 : Rn S 108 33 [v0, v1, v2, v3] st I J Q = Rn S 108 34 [v0, v1, v2, v3] (.long 0 :: st) I J Q := rS f108_33 rfl
theorem x108_34 : Rn S 108 34 [.ref q, v1, v2, v3] st I J Q = Rn S 108 35 [.ref q, v1, v2, v3] (.ref q :: st) I J Q := rL f108_34 rfl rfl
theorem x108_35_65 : Rn (zG xl) 108 35 [v0, v1, v2, v3] (.ref 65 :: st) I J Q = Rn (zG xl) 108 38 [v0, v1, v2, v3] (.ref 67 :: st) I J Q := (rGf f108_35 rfl).trans (tr_and rfl)
theorem x108_38 : Rn S 108 38 [v0, .int a, v2, v3] st I J Q = Rn S 108 39 [v0, .int a, v2, v3] (.int a :: st) I J Q := rL f108_38 rfl rfl
theorem x108_39 : Rn S 108 39 [v0, v1, v2, v3] (.int a :: .ref q :: st) I J Q = (zai S q a ∧ Rn S 108 40 [v0, v1, v2, v3] (.int (I q a.toNatClampNeg) :: st) I J Q) := rIal f108_39
theorem x108_40 : Rn S 108 40 [v0, v1, v2, v3] st I J Q = Rn S 108 41 [v0, v1, v2, v3] (.int 1 :: st) I J Q := rS f108_40 rfl
theorem x108_41 : Rn S 108 41 [v0, v1, v2, v3] (.int b :: .int a :: st) I J Q = Rn S 108 42 [v0, v1, v2, v3] (.int (a - b) :: st) I J Q := rS f108_41 rfl
theorem x108_42 : Rn S 108 42 [v0, v1, v2, v3] (.int a :: st) I J Q = Rn S 108 43 [v0, v1, v2, v3] (.long a.toInt64 :: st) I J Q := rS f108_42 rfl
theorem x108_43 : Rn S 108 43 [v0, v1, v2, v3] (.long u2 :: .long u1 :: .long u0 :: st) I J Q = (zcs st ≤ 8 ∧ Rn S 96 0 [.long u0, .null, .long u1, .null, .long u2, .null] [] I J (fun v I' J' => Rn S 108 46 [v0, v1, v2, v3] (v.toList ++ st) I' J' Q)) := rCS (As := [.long u0, .long u1, .long u2]) f108_43 rfl rfl rfl rfl (Nat.le_of_ble_eq_true rfl)
theorem x108_46 : Rn S 108 46 [v0, v1, v2, v3] (.int a :: st) I J Q = if a = 0 then Rn S 108 53 [v0, v1, v2, v3] st I J Q else Rn S 108 49 [v0, v1, v2, v3] st I J Q := rIeq f108_46 rfl rfl
theorem x108_49 : Rn S 108 49 [v0, v1, v2, v3] st I J Q = Rn S 108 50 [v0, v1, v2, v3] (.int 0 :: st) I J Q := rS f108_49 rfl
theorem x108_50 : Rn S 108 50 [v0, v1, v2, v3] st I J Q = Rn S 108 58 [v0, v1, v2, v3] st I J Q := rB f108_50 rfl rfl rfl
theorem x108_53 : Rn S 108 53 [.ref q, v1, v2, v3] st I J Q = Rn S 108 54 [.ref q, v1, v2, v3] (.ref q :: st) I J Q := rL f108_53 rfl rfl
theorem x108_54 : Rn S 108 54 [v0, v1, v2, v3] st I J Q = Rn S 108 55 [v0, v1, v2, v3] (.int 2 :: st) I J Q := rS f108_54 rfl
theorem x108_55 : Rn S 108 55 [v0, v1, v2, v3] (.int a0 :: .ref q :: st) I J Q = ((zcls S q = 6 ∧ zcs st ≤ 8) ∧ Rn S 104 0 [.ref q, .int a0] [] I J (fun v I' J' => Rn S 108 58 [v0, v1, v2, v3] (v.toList ++ st) I' J' Q)) := rCV (As := [.int a0]) f108_55 rfl rfl rfl rfl (Nat.le_of_ble_eq_true rfl)
theorem x108_58 : Rn S 108 58 [v0, v1, v2, v3] [.int a] I J Q = Q (some (.int a)) I J := rR f108_58 rfl rfl rfl rfl rfl
/-! X6.cut: 109 -/
theorem B109 : zB 109 = cX6_cut := rfl
theorem f109_0 : zft 109 0 = some (.iload_n 0, 1) := fet B109 (by decide +kernel) (Or.inr rfl)
theorem f109_1 : zft 109 1 = some (.ifCond .ne 8, 3) := fet B109 (by decide +kernel) (Or.inr rfl)
theorem f109_4 : zft 109 4 = some (.iload_n 1, 1) := fet B109 (by decide +kernel) (Or.inr rfl)
theorem f109_5 : zft 109 5 = some (.i2b, 1) := fet B109 (by decide +kernel) (Or.inr rfl)
theorem f109_6 : zft 109 6 = some (.goto 14, 3) := fet B109 (by decide +kernel) (Or.inr rfl)
theorem f109_9 : zft 109 9 = some (.iload_n 0, 1) := fet B109 (by decide +kernel) (Or.inr rfl)
theorem f109_10 : zft 109 10 = some (.iconst 1, 1) := fet B109 (by decide +kernel) (Or.inr rfl)
theorem f109_11 : zft 109 11 = some (.if_icmp .ne 8, 3) := fet B109 (by decide +kernel) (Or.inr rfl)
theorem f109_14 : zft 109 14 = some (.iload_n 1, 1) := fet B109 (by decide +kernel) (Or.inr rfl)
theorem f109_15 : zft 109 15 = some (.i2s, 1) := fet B109 (by decide +kernel) (Or.inr rfl)
theorem f109_16 : zft 109 16 = some (.goto 4, 3) := fet B109 (by decide +kernel) (Or.inr rfl)
theorem f109_19 : zft 109 19 = some (.iload_n 1, 1) := fet B109 (by decide +kernel) (Or.inr rfl)
theorem f109_20 : zft 109 20 = some (.ireturn, 1) := fet B109 (by decide +kernel) (Or.inr rfl)
theorem x109_0 : Rn S 109 0 [.int a, v1] st I J Q = Rn S 109 1 [.int a, v1] (.int a :: st) I J Q := rL f109_0 rfl rfl
theorem x109_1 : Rn S 109 1 [v0, v1] (.int a :: st) I J Q = if a = 0 then Rn S 109 4 [v0, v1] st I J Q else Rn S 109 9 [v0, v1] st I J Q := rIne f109_1 rfl rfl
theorem x109_4 : Rn S 109 4 [v0, .int a] st I J Q = Rn S 109 5 [v0, .int a] (.int a :: st) I J Q := rL f109_4 rfl rfl
theorem x109_5 : Rn S 109 5 [v0, v1] (.int a :: st) I J Q = Rn S 109 6 [v0, v1] (.int a.toInt8.toInt32 :: st) I J Q := rS f109_5 rfl
theorem x109_6 : Rn S 109 6 [v0, v1] st I J Q = Rn S 109 20 [v0, v1] st I J Q := rB f109_6 rfl rfl rfl
theorem x109_9 : Rn S 109 9 [.int a, v1] st I J Q = Rn S 109 10 [.int a, v1] (.int a :: st) I J Q := rL f109_9 rfl rfl
theorem x109_10 : Rn S 109 10 [v0, v1] st I J Q = Rn S 109 11 [v0, v1] (.int 1 :: st) I J Q := rS f109_10 rfl
theorem x109_11 : Rn S 109 11 [v0, v1] (.int b :: .int a :: st) I J Q = if a = b then Rn S 109 14 [v0, v1] st I J Q else Rn S 109 19 [v0, v1] st I J Q := rCne f109_11 rfl rfl
theorem x109_14 : Rn S 109 14 [v0, .int a] st I J Q = Rn S 109 15 [v0, .int a] (.int a :: st) I J Q := rL f109_14 rfl rfl
theorem x109_15 : Rn S 109 15 [v0, v1] (.int a :: st) I J Q = Rn S 109 16 [v0, v1] (.int a.toInt16.toInt32 :: st) I J Q := rS f109_15 rfl
theorem x109_16 : Rn S 109 16 [v0, v1] st I J Q = Rn S 109 20 [v0, v1] st I J Q := rB f109_16 rfl rfl rfl
theorem x109_19 : Rn S 109 19 [v0, .int a] st I J Q = Rn S 109 20 [v0, .int a] (.int a :: st) I J Q := rL f109_19 rfl rfl
theorem x109_20 : Rn S 109 20 [v0, v1] [.int a] I J Q = Q (some (.int a)) I J := rR f109_20 rfl rfl rfl rfl rfl
/-! X6.lay: 110 -/
theorem B110 : zB 110 = cX6_lay := rfl
theorem f110_0 : zft 110 0 = some (.iload_n 1, 1) := fet B110 (by decide +kernel) (Or.inr rfl)
theorem f110_1 : zft 110 1 = some (.invokestatic 95, 3) := fet B110 (by decide +kernel) (Or.inr rfl)
theorem f110_4 : zft 110 4 = some (.ifCond .eq 15, 3) := fet B110 (by decide +kernel) (Or.inr rfl)
theorem f110_7 : zft 110 7 = some (.iload_n 2, 1) := fet B110 (by decide +kernel) (Or.inr rfl)
theorem f110_8 : zft 110 8 = some (.i2l, 1) := fet B110 (by decide +kernel) (Or.inr rfl)
theorem f110_9 : zft 110 9 = some (.lconst 0, 1) := fet B110 (by decide +kernel) (Or.inr rfl)
theorem f110_10 : zft 110 10 = some (.ldc2_w 99, 3) := fet B110 (by decide +kernel) (Or.inr rfl)
theorem f110_13 : zft 110 13 = some (.invokestatic 86, 3) := fet B110 (by decide +kernel) (Or.inr rfl)
theorem f110_16 : zft 110 16 = some (.ifCond .ne 6, 3) := fet B110 (by decide +kernel) (Or.inr rfl)
theorem f110_19 : zft 110 19 = some (.bipush (-2), 2) := fet B110 (by decide +kernel) (Or.inr rfl)
theorem f110_21 : zft 110 21 = some (.ireturn, 1) := fet B110 (by decide +kernel) (Or.inr rfl)
theorem f110_22 : zft 110 22 = some (.aload_n 0, 1) := fet B110 (by decide +kernel) (Or.inr rfl)
theorem f110_23 : zft 110 23 = some (.iload_n 1, 1) := fet B110 (by decide +kernel) (Or.inr rfl)
theorem f110_24 : zft 110 24 = some (.iload_n 2, 1) := fet B110 (by decide +kernel) (Or.inr rfl)
theorem f110_25 : zft 110 25 = some (.iload_n 3, 1) := fet B110 (by decide +kernel) (Or.inr rfl)
theorem f110_26 : zft 110 26 = some (.invokevirtual 105, 3) := fet B110 (by decide +kernel) (Or.inr rfl)
theorem f110_29 : zft 110 29 = some (.istore 5, 2) := fet B110 (by decide +kernel) (Or.inr rfl)
theorem f110_31 : zft 110 31 = some (.iload 5, 2) := fet B110 (by decide +kernel) (Or.inr rfl)
theorem f110_33 : zft 110 33 = some (.ifCond .eq 6, 3) := fet B110 (by decide +kernel) (Or.inr rfl)
theorem f110_36 : zft 110 36 = some (.iload 5, 2) := fet B110 (by decide +kernel) (Or.inr rfl)
theorem f110_38 : zft 110 38 = some (.ireturn, 1) := fet B110 (by decide +kernel) (Or.inr rfl)
theorem f110_39 : zft 110 39 = some (.aload_n 0, 1) := fet B110 (by decide +kernel) (Or.inr rfl)
theorem f110_40 : zft 110 40 = some (.getfield 16, 3) := fet B110 (by decide +kernel) (Or.inr rfl)
theorem f110_43 : zft 110 43 = some (.bipush 60, 2) := fet B110 (by decide +kernel) (Or.inr rfl)
theorem f110_45 : zft 110 45 = some (.iload_n 1, 1) := fet B110 (by decide +kernel) (Or.inr rfl)
theorem f110_46 : zft 110 46 = some (.imul, 1) := fet B110 (by decide +kernel) (Or.inr rfl)
theorem f110_47 : zft 110 47 = some (.iload_n 3, 1) := fet B110 (by decide +kernel) (Or.inr rfl)
theorem f110_48 : zft 110 48 = some (.iadd, 1) := fet B110 (by decide +kernel) (Or.inr rfl)
theorem f110_49 : zft 110 49 = some (.iload_n 2, 1) := fet B110 (by decide +kernel) (Or.inr rfl)
theorem f110_50 : zft 110 50 = some (.iload 4, 2) := fet B110 (by decide +kernel) (Or.inr rfl)
theorem f110_52 : zft 110 52 = some (.invokestatic 109, 3) := fet B110 (by decide +kernel) (Or.inr rfl)
theorem f110_55 : zft 110 55 = some (.iastore, 1) := fet B110 (by decide +kernel) (Or.inr rfl)
theorem f110_56 : zft 110 56 = some (.iconst 1, 1) := fet B110 (by decide +kernel) (Or.inr rfl)
theorem f110_57 : zft 110 57 = some (.ireturn, 1) := fet B110 (by decide +kernel) (Or.inr rfl)
theorem x110_0 : Rn S 110 0 [v0, .int a, v2, v3, v4, v5] st I J Q = Rn S 110 1 [v0, .int a, v2, v3, v4, v5] (.int a :: st) I J Q := rL f110_0 rfl rfl
theorem x110_1 : Rn S 110 1 [v0, v1, v2, v3, v4, v5] (.int a0 :: st) I J Q = (zcs st ≤ 8 ∧ Rn S 105 0 [.int a0] [] I J (fun v I' J' => Rn S 110 4 [v0, v1, v2, v3, v4, v5] (v.toList ++ st) I' J' Q)) := rCS (As := [.int a0]) f110_1 rfl rfl rfl rfl (Nat.le_of_ble_eq_true rfl)
theorem x110_4 : Rn S 110 4 [v0, v1, v2, v3, v4, v5] (.int a :: st) I J Q = if a = 0 then Rn S 110 19 [v0, v1, v2, v3, v4, v5] st I J Q else Rn S 110 7 [v0, v1, v2, v3, v4, v5] st I J Q := rIeq f110_4 rfl rfl
theorem x110_7 : Rn S 110 7 [v0, v1, .int a, v3, v4, v5] st I J Q = Rn S 110 8 [v0, v1, .int a, v3, v4, v5] (.int a :: st) I J Q := rL f110_7 rfl rfl
theorem x110_8 : Rn S 110 8 [v0, v1, v2, v3, v4, v5] (.int a :: st) I J Q = Rn S 110 9 [v0, v1, v2, v3, v4, v5] (.long a.toInt64 :: st) I J Q := rS f110_8 rfl
theorem x110_9 : Rn S 110 9 [v0, v1, v2, v3, v4, v5] st I J Q = Rn S 110 10 [v0, v1, v2, v3, v4, v5] (.long 0 :: st) I J Q := rS f110_9 rfl
theorem x110_10 : Rn S 110 10 [v0, v1, v2, v3, v4, v5] st I J Q = Rn S 110 13 [v0, v1, v2, v3, v4, v5] (.long 2 :: st) I J Q := rS f110_10 rfl
theorem x110_13 : Rn S 110 13 [v0, v1, v2, v3, v4, v5] (.long u2 :: .long u1 :: .long u0 :: st) I J Q = (zcs st ≤ 8 ∧ Rn S 96 0 [.long u0, .null, .long u1, .null, .long u2, .null] [] I J (fun v I' J' => Rn S 110 16 [v0, v1, v2, v3, v4, v5] (v.toList ++ st) I' J' Q)) := rCS (As := [.long u0, .long u1, .long u2]) f110_13 rfl rfl rfl rfl (Nat.le_of_ble_eq_true rfl)
theorem x110_16 : Rn S 110 16 [v0, v1, v2, v3, v4, v5] (.int a :: st) I J Q = if a = 0 then Rn S 110 19 [v0, v1, v2, v3, v4, v5] st I J Q else Rn S 110 22 [v0, v1, v2, v3, v4, v5] st I J Q := rIne f110_16 rfl rfl
theorem x110_19 : Rn S 110 19 [v0, v1, v2, v3, v4, v5] st I J Q = Rn S 110 21 [v0, v1, v2, v3, v4, v5] (.int (-2) :: st) I J Q := rS f110_19 rfl
theorem x110_21 : Rn S 110 21 [v0, v1, v2, v3, v4, v5] [.int a] I J Q = Q (some (.int a)) I J := rR f110_21 rfl rfl rfl rfl rfl
theorem x110_22 : Rn S 110 22 [.ref q, v1, v2, v3, v4, v5] st I J Q = Rn S 110 23 [.ref q, v1, v2, v3, v4, v5] (.ref q :: st) I J Q := rL f110_22 rfl rfl
theorem x110_23 : Rn S 110 23 [v0, .int a, v2, v3, v4, v5] st I J Q = Rn S 110 24 [v0, .int a, v2, v3, v4, v5] (.int a :: st) I J Q := rL f110_23 rfl rfl
theorem x110_24 : Rn S 110 24 [v0, v1, .int a, v3, v4, v5] st I J Q = Rn S 110 25 [v0, v1, .int a, v3, v4, v5] (.int a :: st) I J Q := rL f110_24 rfl rfl
theorem x110_25 : Rn S 110 25 [v0, v1, v2, .int a, v4, v5] st I J Q = Rn S 110 26 [v0, v1, v2, .int a, v4, v5] (.int a :: st) I J Q := rL f110_25 rfl rfl
theorem x110_26 : Rn S 110 26 [v0, v1, v2, v3, v4, v5] (.int a2 :: .int a1 :: .int a0 :: .ref q :: st) I J Q = ((zcls S q = 6 ∧ zcs st ≤ 8) ∧ Rn S 108 0 [.ref q, .int a0, .int a1, .int a2] [] I J (fun v I' J' => Rn S 110 29 [v0, v1, v2, v3, v4, v5] (v.toList ++ st) I' J' Q)) := rCV (As := [.int a0, .int a1, .int a2]) f110_26 rfl rfl rfl rfl (Nat.le_of_ble_eq_true rfl)
theorem x110_29 : Rn S 110 29 [v0, v1, v2, v3, v4, v5] (.int a :: st) I J Q = Rn S 110 31 [v0, v1, v2, v3, zkl v4, .int a] st I J Q := rL f110_29 rfl rfl
theorem x110_31 : Rn S 110 31 [v0, v1, v2, v3, v4, .int a] st I J Q = Rn S 110 33 [v0, v1, v2, v3, v4, .int a] (.int a :: st) I J Q := rL f110_31 rfl rfl
theorem x110_33 : Rn S 110 33 [v0, v1, v2, v3, v4, v5] (.int a :: st) I J Q = if a = 0 then Rn S 110 39 [v0, v1, v2, v3, v4, v5] st I J Q else Rn S 110 36 [v0, v1, v2, v3, v4, v5] st I J Q := rIeq f110_33 rfl rfl
theorem x110_36 : Rn S 110 36 [v0, v1, v2, v3, v4, .int a] st I J Q = Rn S 110 38 [v0, v1, v2, v3, v4, .int a] (.int a :: st) I J Q := rL f110_36 rfl rfl
theorem x110_38 : Rn S 110 38 [v0, v1, v2, v3, v4, v5] [.int a] I J Q = Q (some (.int a)) I J := rR f110_38 rfl rfl rfl rfl rfl
theorem x110_39 : Rn S 110 39 [.ref q, v1, v2, v3, v4, v5] st I J Q = Rn S 110 40 [.ref q, v1, v2, v3, v4, v5] (.ref q :: st) I J Q := rL f110_39 rfl rfl
theorem x110_40_65 : Rn (zG xl) 110 40 [v0, v1, v2, v3, v4, v5] (.ref 65 :: st) I J Q = Rn (zG xl) 110 43 [v0, v1, v2, v3, v4, v5] (.ref 68 :: st) I J Q := (rGf f110_40 rfl).trans (tr_and rfl)
theorem x110_43 : Rn S 110 43 [v0, v1, v2, v3, v4, v5] st I J Q = Rn S 110 45 [v0, v1, v2, v3, v4, v5] (.int 60 :: st) I J Q := rS f110_43 rfl
theorem x110_45 : Rn S 110 45 [v0, .int a, v2, v3, v4, v5] st I J Q = Rn S 110 46 [v0, .int a, v2, v3, v4, v5] (.int a :: st) I J Q := rL f110_45 rfl rfl
theorem x110_46 : Rn S 110 46 [v0, v1, v2, v3, v4, v5] (.int b :: .int a :: st) I J Q = Rn S 110 47 [v0, v1, v2, v3, v4, v5] (.int (a * b) :: st) I J Q := rS f110_46 rfl
theorem x110_47 : Rn S 110 47 [v0, v1, v2, .int a, v4, v5] st I J Q = Rn S 110 48 [v0, v1, v2, .int a, v4, v5] (.int a :: st) I J Q := rL f110_47 rfl rfl
theorem x110_48 : Rn S 110 48 [v0, v1, v2, v3, v4, v5] (.int b :: .int a :: st) I J Q = Rn S 110 49 [v0, v1, v2, v3, v4, v5] (.int (a + b) :: st) I J Q := rS f110_48 rfl
theorem x110_49 : Rn S 110 49 [v0, v1, .int a, v3, v4, v5] st I J Q = Rn S 110 50 [v0, v1, .int a, v3, v4, v5] (.int a :: st) I J Q := rL f110_49 rfl rfl
theorem x110_50 : Rn S 110 50 [v0, v1, v2, v3, .int a, v5] st I J Q = Rn S 110 52 [v0, v1, v2, v3, .int a, v5] (.int a :: st) I J Q := rL f110_50 rfl rfl
theorem x110_52 : Rn S 110 52 [v0, v1, v2, v3, v4, v5] (.int a1 :: .int a0 :: st) I J Q = (zcs st ≤ 8 ∧ Rn S 109 0 [.int a0, .int a1] [] I J (fun v I' J' => Rn S 110 55 [v0, v1, v2, v3, v4, v5] (v.toList ++ st) I' J' Q)) := rCS (As := [.int a0, .int a1]) f110_52 rfl rfl rfl rfl (Nat.le_of_ble_eq_true rfl)
theorem x110_55 : Rn S 110 55 [v0, v1, v2, v3, v4, v5] (.int b :: .int a :: .ref q :: st) I J Q = (zas S q a ∧ Rn S 110 56 [v0, v1, v2, v3, v4, v5] st (zr I q (upd (I q) a.toNatClampNeg b)) J Q) := rIas f110_55
theorem x110_56 : Rn S 110 56 [v0, v1, v2, v3, v4, v5] st I J Q = Rn S 110 57 [v0, v1, v2, v3, v4, v5] (.int 1 :: st) I J Q := rS f110_56 rfl
theorem x110_57 : Rn S 110 57 [v0, v1, v2, v3, v4, v5] [.int a] I J Q = Q (some (.int a)) I J := rR f110_57 rfl rfl rfl rfl rfl
/-! X6.get: 111 -/
theorem B111 : zB 111 = cX6_get := rfl
theorem f111_0 : zft 111 0 = some (.iload_n 1, 1) := fet B111 (by decide +kernel) (Or.inr rfl)
theorem f111_1 : zft 111 1 = some (.invokestatic 95, 3) := fet B111 (by decide +kernel) (Or.inr rfl)
theorem f111_4 : zft 111 4 = some (.ifCond .eq 25, 3) := fet B111 (by decide +kernel) (Or.inr rfl)
theorem f111_7 : zft 111 7 = some (.iload_n 2, 1) := fet B111 (by decide +kernel) (Or.inr rfl)
theorem f111_8 : zft 111 8 = some (.i2l, 1) := fet B111 (by decide +kernel) (Or.inr rfl)
theorem f111_9 : zft 111 9 = some (.lconst 0, 1) := fet B111 (by decide +kernel) (Or.inr rfl)
theorem f111_10 : zft 111 10 = some (.ldc2_w 99, 3) := fet B111 (by decide +kernel) (Or.inr rfl)
theorem f111_13 : zft 111 13 = some (.invokestatic 86, 3) := fet B111 (by decide +kernel) (Or.inr rfl)
theorem f111_16 : zft 111 16 = some (.ifCond .eq 13, 3) := fet B111 (by decide +kernel) (Or.inr rfl)
theorem f111_19 : zft 111 19 = some (.aload_n 0, 1) := fet B111 (by decide +kernel) (Or.inr rfl)
theorem f111_20 : zft 111 20 = some (.iload_n 1, 1) := fet B111 (by decide +kernel) (Or.inr rfl)
theorem f111_21 : zft 111 21 = some (.iload_n 2, 1) := fet B111 (by decide +kernel) (Or.inr rfl)
theorem f111_22 : zft 111 22 = some (.iload_n 3, 1) := fet B111 (by decide +kernel) (Or.inr rfl)
theorem f111_23 : zft 111 23 = some (.invokevirtual 105, 3) := fet B111 (by decide +kernel) (Or.inr rfl)
theorem f111_26 : zft 111 26 = some (.ifCond .eq 6, 3) := fet B111 (by decide +kernel) (Or.inr rfl)
theorem f111_29 : zft 111 29 = some (.ldc 113, 2) := fet B111 (by decide +kernel) (Or.inr rfl)
theorem f111_31 : zft 111 31 = some (.ireturn, 1) := fet B111 (by decide +kernel) (Or.inr rfl)
theorem f111_32 : zft 111 32 = some (.aload_n 0, 1) := fet B111 (by decide +kernel) (Or.inr rfl)
theorem f111_33 : zft 111 33 = some (.getfield 16, 3) := fet B111 (by decide +kernel) (Or.inr rfl)
theorem f111_36 : zft 111 36 = some (.bipush 60, 2) := fet B111 (by decide +kernel) (Or.inr rfl)
theorem f111_38 : zft 111 38 = some (.iload_n 1, 1) := fet B111 (by decide +kernel) (Or.inr rfl)
theorem f111_39 : zft 111 39 = some (.imul, 1) := fet B111 (by decide +kernel) (Or.inr rfl)
theorem f111_40 : zft 111 40 = some (.iload_n 3, 1) := fet B111 (by decide +kernel) (Or.inr rfl)
theorem f111_41 : zft 111 41 = some (.iadd, 1) := fet B111 (by decide +kernel) (Or.inr rfl)
theorem f111_42 : zft 111 42 = some (.iaload, 1) := fet B111 (by decide +kernel) (Or.inr rfl)
theorem f111_43 : zft 111 43 = some (.ireturn, 1) := fet B111 (by decide +kernel) (Or.inr rfl)
theorem x111_0 : Rn S 111 0 [v0, .int a, v2, v3] st I J Q = Rn S 111 1 [v0, .int a, v2, v3] (.int a :: st) I J Q := rL f111_0 rfl rfl
theorem x111_1 : Rn S 111 1 [v0, v1, v2, v3] (.int a0 :: st) I J Q = (zcs st ≤ 8 ∧ Rn S 105 0 [.int a0] [] I J (fun v I' J' => Rn S 111 4 [v0, v1, v2, v3] (v.toList ++ st) I' J' Q)) := rCS (As := [.int a0]) f111_1 rfl rfl rfl rfl (Nat.le_of_ble_eq_true rfl)
theorem x111_4 : Rn S 111 4 [v0, v1, v2, v3] (.int a :: st) I J Q = if a = 0 then Rn S 111 29 [v0, v1, v2, v3] st I J Q else Rn S 111 7 [v0, v1, v2, v3] st I J Q := rIeq f111_4 rfl rfl
theorem x111_7 : Rn S 111 7 [v0, v1, .int a, v3] st I J Q = Rn S 111 8 [v0, v1, .int a, v3] (.int a :: st) I J Q := rL f111_7 rfl rfl
theorem x111_8 : Rn S 111 8 [v0, v1, v2, v3] (.int a :: st) I J Q = Rn S 111 9 [v0, v1, v2, v3] (.long a.toInt64 :: st) I J Q := rS f111_8 rfl
theorem x111_9 : Rn S 111 9 [v0, v1, v2, v3] st I J Q = Rn S 111 10 [v0, v1, v2, v3] (.long 0 :: st) I J Q := rS f111_9 rfl
theorem x111_10 : Rn S 111 10 [v0, v1, v2, v3] st I J Q = Rn S 111 13 [v0, v1, v2, v3] (.long 2 :: st) I J Q := rS f111_10 rfl
theorem x111_13 : Rn S 111 13 [v0, v1, v2, v3] (.long u2 :: .long u1 :: .long u0 :: st) I J Q = (zcs st ≤ 8 ∧ Rn S 96 0 [.long u0, .null, .long u1, .null, .long u2, .null] [] I J (fun v I' J' => Rn S 111 16 [v0, v1, v2, v3] (v.toList ++ st) I' J' Q)) := rCS (As := [.long u0, .long u1, .long u2]) f111_13 rfl rfl rfl rfl (Nat.le_of_ble_eq_true rfl)
theorem x111_16 : Rn S 111 16 [v0, v1, v2, v3] (.int a :: st) I J Q = if a = 0 then Rn S 111 29 [v0, v1, v2, v3] st I J Q else Rn S 111 19 [v0, v1, v2, v3] st I J Q := rIeq f111_16 rfl rfl
theorem x111_19 : Rn S 111 19 [.ref q, v1, v2, v3] st I J Q = Rn S 111 20 [.ref q, v1, v2, v3] (.ref q :: st) I J Q := rL f111_19 rfl rfl
theorem x111_20 : Rn S 111 20 [v0, .int a, v2, v3] st I J Q = Rn S 111 21 [v0, .int a, v2, v3] (.int a :: st) I J Q := rL f111_20 rfl rfl
theorem x111_21 : Rn S 111 21 [v0, v1, .int a, v3] st I J Q = Rn S 111 22 [v0, v1, .int a, v3] (.int a :: st) I J Q := rL f111_21 rfl rfl
theorem x111_22 : Rn S 111 22 [v0, v1, v2, .int a] st I J Q = Rn S 111 23 [v0, v1, v2, .int a] (.int a :: st) I J Q := rL f111_22 rfl rfl
theorem x111_23 : Rn S 111 23 [v0, v1, v2, v3] (.int a2 :: .int a1 :: .int a0 :: .ref q :: st) I J Q = ((zcls S q = 6 ∧ zcs st ≤ 8) ∧ Rn S 108 0 [.ref q, .int a0, .int a1, .int a2] [] I J (fun v I' J' => Rn S 111 26 [v0, v1, v2, v3] (v.toList ++ st) I' J' Q)) := rCV (As := [.int a0, .int a1, .int a2]) f111_23 rfl rfl rfl rfl (Nat.le_of_ble_eq_true rfl)
theorem x111_26 : Rn S 111 26 [v0, v1, v2, v3] (.int a :: st) I J Q = if a = 0 then Rn S 111 32 [v0, v1, v2, v3] st I J Q else Rn S 111 29 [v0, v1, v2, v3] st I J Q := rIeq f111_26 rfl rfl
theorem x111_29 : Rn S 111 29 [v0, v1, v2, v3] st I J Q = Rn S 111 31 [v0, v1, v2, v3] (.int (-2147483648) :: st) I J Q := rS f111_29 rfl
theorem x111_31 : Rn S 111 31 [v0, v1, v2, v3] [.int a] I J Q = Q (some (.int a)) I J := rR f111_31 rfl rfl rfl rfl rfl
theorem x111_32 : Rn S 111 32 [.ref q, v1, v2, v3] st I J Q = Rn S 111 33 [.ref q, v1, v2, v3] (.ref q :: st) I J Q := rL f111_32 rfl rfl
theorem x111_33_65 : Rn (zG xl) 111 33 [v0, v1, v2, v3] (.ref 65 :: st) I J Q = Rn (zG xl) 111 36 [v0, v1, v2, v3] (.ref 68 :: st) I J Q := (rGf f111_33 rfl).trans (tr_and rfl)
theorem x111_36 : Rn S 111 36 [v0, v1, v2, v3] st I J Q = Rn S 111 38 [v0, v1, v2, v3] (.int 60 :: st) I J Q := rS f111_36 rfl
theorem x111_38 : Rn S 111 38 [v0, .int a, v2, v3] st I J Q = Rn S 111 39 [v0, .int a, v2, v3] (.int a :: st) I J Q := rL f111_38 rfl rfl
theorem x111_39 : Rn S 111 39 [v0, v1, v2, v3] (.int b :: .int a :: st) I J Q = Rn S 111 40 [v0, v1, v2, v3] (.int (a * b) :: st) I J Q := rS f111_39 rfl
theorem x111_40 : Rn S 111 40 [v0, v1, v2, .int a] st I J Q = Rn S 111 41 [v0, v1, v2, .int a] (.int a :: st) I J Q := rL f111_40 rfl rfl
theorem x111_41 : Rn S 111 41 [v0, v1, v2, v3] (.int b :: .int a :: st) I J Q = Rn S 111 42 [v0, v1, v2, v3] (.int (a + b) :: st) I J Q := rS f111_41 rfl
theorem x111_42 : Rn S 111 42 [v0, v1, v2, v3] (.int a :: .ref q :: st) I J Q = (zai S q a ∧ Rn S 111 43 [v0, v1, v2, v3] (.int (I q a.toNatClampNeg) :: st) I J Q) := rIal f111_42
theorem x111_43 : Rn S 111 43 [v0, v1, v2, v3] [.int a] I J Q = Q (some (.int a)) I J := rR f111_43 rfl rfl rfl rfl rfl
/-! X6.copy: 112 -/
theorem B112 : zB 112 = cX6_copy := rfl
theorem f112_0 : zft 112 0 = some (.iload_n 1, 1) := fet B112 (by decide +kernel) (Or.inr rfl)
theorem f112_1 : zft 112 1 = some (.invokestatic 95, 3) := fet B112 (by decide +kernel) (Or.inr rfl)
theorem f112_4 : zft 112 4 = some (.ifCond .eq 10, 3) := fet B112 (by decide +kernel) (Or.inr rfl)
theorem f112_7 : zft 112 7 = some (.iload_n 3, 1) := fet B112 (by decide +kernel) (Or.inr rfl)
theorem f112_8 : zft 112 8 = some (.invokestatic 95, 3) := fet B112 (by decide +kernel) (Or.inr rfl)
theorem f112_11 : zft 112 11 = some (.ifCond .ne 6, 3) := fet B112 (by decide +kernel) (Or.inr rfl)
theorem f112_14 : zft 112 14 = some (.bipush (-2), 2) := fet B112 (by decide +kernel) (Or.inr rfl)
theorem f112_16 : zft 112 16 = some (.ireturn, 1) := fet B112 (by decide +kernel) (Or.inr rfl)
theorem f112_17 : zft 112 17 = some (.aload_n 0, 1) := fet B112 (by decide +kernel) (Or.inr rfl)
theorem f112_18 : zft 112 18 = some (.getfield 7, 3) := fet B112 (by decide +kernel) (Or.inr rfl)
theorem f112_21 : zft 112 21 = some (.iload_n 1, 1) := fet B112 (by decide +kernel) (Or.inr rfl)
theorem f112_22 : zft 112 22 = some (.iaload, 1) := fet B112 (by decide +kernel) (Or.inr rfl)
theorem f112_23 : zft 112 23 = some (.ifCond .lt 12, 3) := fet B112 (by decide +kernel) (Or.inr rfl)
theorem f112_26 : zft 112 26 = some (.aload_n 0, 1) := fet B112 (by decide +kernel) (Or.inr rfl)
theorem f112_27 : zft 112 27 = some (.getfield 7, 3) := fet B112 (by decide +kernel) (Or.inr rfl)
theorem f112_30 : zft 112 30 = some (.iload_n 3, 1) := fet B112 (by decide +kernel) (Or.inr rfl)
theorem f112_31 : zft 112 31 = some (.iaload, 1) := fet B112 (by decide +kernel) (Or.inr rfl)
theorem f112_32 : zft 112 32 = some (.ifCond .ge 9, 3) := fet B112 (by decide +kernel) (Or.inr rfl)
theorem f112_35 : zft 112 35 = some (.aload_n 0, 1) := fet B112 (by decide +kernel) (Or.inr rfl)
theorem f112_36 : zft 112 36 = some (.iconst 1, 1) := fet B112 (by decide +kernel) (Or.inr rfl)
theorem f112_37 : zft 112 37 = some (.invokevirtual 101, 3) := fet B112 (by decide +kernel) (Or.inr rfl)
theorem f112_40 : zft 112 40 = some (.ireturn, 1) := fet B112 (by decide +kernel) (Or.inr rfl)
theorem f112_41 : zft 112 41 = some (.aload_n 0, 1) := fet B112 (by decide +kernel) (Or.inr rfl)
theorem f112_42 : zft 112 42 = some (.getfield 7, 3) := fet B112 (by decide +kernel) (Or.inr rfl)
theorem f112_45 : zft 112 45 = some (.iload_n 1, 1) := fet B112 (by decide +kernel) (Or.inr rfl)
theorem f112_46 : zft 112 46 = some (.iaload, 1) := fet B112 (by decide +kernel) (Or.inr rfl)
theorem f112_47 : zft 112 47 = some (.aload_n 0, 1) := fet B112 (by decide +kernel) (Or.inr rfl)
theorem f112_48 : zft 112 48 = some (.getfield 7, 3) := fet B112 (by decide +kernel) (Or.inr rfl)
theorem f112_51 : zft 112 51 = some (.iload_n 3, 1) := fet B112 (by decide +kernel) (Or.inr rfl)
theorem f112_52 : zft 112 52 = some (.iaload, 1) := fet B112 (by decide +kernel) (Or.inr rfl)
theorem f112_53 : zft 112 53 = some (.if_icmp .eq 9, 3) := fet B112 (by decide +kernel) (Or.inr rfl)
theorem f112_56 : zft 112 56 = some (.aload_n 0, 1) := fet B112 (by decide +kernel) (Or.inr rfl)
theorem f112_57 : zft 112 57 = some (.iconst 4, 1) := fet B112 (by decide +kernel) (Or.inr rfl)
theorem f112_58 : zft 112 58 = some (.invokevirtual 101, 3) := fet B112 (by decide +kernel) (Or.inr rfl)
theorem f112_61 : zft 112 61 = some (.ireturn, 1) := fet B112 (by decide +kernel) (Or.inr rfl)
theorem f112_62 : zft 112 62 = some (.iload_n 2, 1) := fet B112 (by decide +kernel) (Or.inr rfl)
theorem f112_63 : zft 112 63 = some (.ifCond .lt 48, 3) := fet B112 (by decide +kernel) (Or.inr rfl)
theorem f112_66 : zft 112 66 = some (.iload 4, 2) := fet B112 (by decide +kernel) (Or.inr rfl)
theorem f112_68 : zft 112 68 = some (.ifCond .lt 43, 3) := fet B112 (by decide +kernel) (Or.inr rfl)
theorem f112_71 : zft 112 71 = some (.iload 5, 2) := fet B112 (by decide +kernel) (Or.inr rfl)
theorem f112_73 : zft 112 73 = some (.ifCond .lt 38, 3) := fet B112 (by decide +kernel) (Or.inr rfl)
theorem f112_76 : zft 112 76 = some (.iload_n 2, 1) := fet B112 (by decide +kernel) (Or.inr rfl)
theorem f112_77 : zft 112 77 = some (.i2l, 1) := fet B112 (by decide +kernel) (Or.inr rfl)
theorem f112_78 : zft 112 78 = some (.iload 5, 2) := fet B112 (by decide +kernel) (Or.inr rfl)
theorem f112_80 : zft 112 80 = some (.i2l, 1) := fet B112 (by decide +kernel) (Or.inr rfl)
theorem f112_81 : zft 112 81 = some (.ladd, 1) := fet B112 (by decide +kernel) (Or.inr rfl)
theorem f112_82 : zft 112 82 = some (.aload_n 0, 1) := fet B112 (by decide +kernel) (Or.inr rfl)
theorem f112_83 : zft 112 83 = some (.getfield 13, 3) := fet B112 (by decide +kernel) (Or.inr rfl)
theorem f112_86 : zft 112 86 = some (.iload_n 1, 1) := fet B112 (by decide +kernel) (Or.inr rfl)
theorem f112_87 : zft 112 87 = some (.iaload, 1) := fet B112 (by decide +kernel) (Or.inr rfl)
theorem f112_88 : zft 112 88 = some (.i2l, 1) := fet B112 (by decide +kernel) (Or.inr rfl)
theorem f112_89 : zft 112 89 = some (.lcmp, 1) := fet B112 (by decide +kernel) (Or.inr rfl)
theorem f112_90 : zft 112 90 = some (.ifCond .gt 21, 3) := fet B112 (by decide +kernel) (Or.inr rfl)
theorem f112_93 : zft 112 93 = some (.iload 4, 2) := fet B112 (by decide +kernel) (Or.inr rfl)
theorem f112_95 : zft 112 95 = some (.i2l, 1) := fet B112 (by decide +kernel) (Or.inr rfl)
theorem f112_96 : zft 112 96 = some (.iload 5, 2) := fet B112 (by decide +kernel) (Or.inr rfl)
theorem f112_98 : zft 112 98 = some (.i2l, 1) := fet B112 (by decide +kernel) (Or.inr rfl)
theorem f112_99 : zft 112 99 = some (.ladd, 1) := fet B112 (by decide +kernel) (Or.inr rfl)
theorem f112_100 : zft 112 100 = some (.aload_n 0, 1) := fet B112 (by decide +kernel) (Or.inr rfl)
theorem f112_101 : zft 112 101 = some (.getfield 13, 3) := fet B112 (by decide +kernel) (Or.inr rfl)
theorem f112_104 : zft 112 104 = some (.iload_n 3, 1) := fet B112 (by decide +kernel) (Or.inr rfl)
theorem f112_105 : zft 112 105 = some (.iaload, 1) := fet B112 (by decide +kernel) (Or.inr rfl)
theorem f112_106 : zft 112 106 = some (.i2l, 1) := fet B112 (by decide +kernel) (Or.inr rfl)
theorem f112_107 : zft 112 107 = some (.lcmp, 1) := fet B112 (by decide +kernel) (Or.inr rfl)
theorem f112_108 : zft 112 108 = some (.ifCond .le 9, 3) := fet B112 (by decide +kernel) (Or.inr rfl)
theorem f112_111 : zft 112 111 = some (.aload_n 0, 1) := fet B112 (by decide +kernel) (Or.inr rfl)
theorem f112_112 : zft 112 112 = some (.iconst 2, 1) := fet B112 (by decide +kernel) (Or.inr rfl)
theorem f112_113 : zft 112 113 = some (.invokevirtual 101, 3) := fet B112 (by decide +kernel) (Or.inr rfl)
theorem f112_116 : zft 112 116 = some (.ireturn, 1) := fet B112 (by decide +kernel) (Or.inr rfl)
theorem f112_117 : zft 112 117 = some (.iconst 0, 1) := fet B112 (by decide +kernel) (Or.inr rfl)
theorem f112_118 : zft 112 118 = some (.istore 6, 2) := fet B112 (by decide +kernel) (Or.inr rfl)
theorem f112_120 : zft 112 120 = some (.iload 6, 2) := fet B112 (by decide +kernel) (Or.inr rfl)
theorem f112_122 : zft 112 122 = some (.iload 5, 2) := fet B112 (by decide +kernel) (Or.inr rfl)
theorem f112_124 : zft 112 124 = some (.if_icmp .ge 30, 3) := fet B112 (by decide +kernel) (Or.inr rfl)
theorem f112_127 : zft 112 127 = some (.aload_n 0, 1) := fet B112 (by decide +kernel) (Or.inr rfl)
theorem f112_128 : zft 112 128 = some (.getfield 19, 3) := fet B112 (by decide +kernel) (Or.inr rfl)
theorem f112_131 : zft 112 131 = some (.iload 6, 2) := fet B112 (by decide +kernel) (Or.inr rfl)
theorem f112_133 : zft 112 133 = some (.aload_n 0, 1) := fet B112 (by decide +kernel) (Or.inr rfl)
theorem f112_134 : zft 112 134 = some (.getfield 16, 3) := fet B112 (by decide +kernel) (Or.inr rfl)
theorem f112_137 : zft 112 137 = some (.bipush 60, 2) := fet B112 (by decide +kernel) (Or.inr rfl)
theorem f112_139 : zft 112 139 = some (.iload_n 1, 1) := fet B112 (by decide +kernel) (Or.inr rfl)
theorem f112_140 : zft 112 140 = some (.imul, 1) := fet B112 (by decide +kernel) (Or.inr rfl)
theorem f112_141 : zft 112 141 = some (.iload_n 2, 1) := fet B112 (by decide +kernel) (Or.inr rfl)
theorem f112_142 : zft 112 142 = some (.iadd, 1) := fet B112 (by decide +kernel) (Or.inr rfl)
theorem f112_143 : zft 112 143 = some (.iload 6, 2) := fet B112 (by decide +kernel) (Or.inr rfl)
theorem f112_145 : zft 112 145 = some (.iadd, 1) := fet B112 (by decide +kernel) (Or.inr rfl)
theorem f112_146 : zft 112 146 = some (.iaload, 1) := fet B112 (by decide +kernel) (Or.inr rfl)
theorem f112_147 : zft 112 147 = some (.iastore, 1) := fet B112 (by decide +kernel) (Or.inr rfl)
theorem f112_148 : zft 112 148 = some (.iinc 6 1, 3) := fet B112 (by decide +kernel) (Or.inr rfl)
theorem f112_151 : zft 112 151 = some (.goto (-31), 3) := fet B112 (by decide +kernel) (Or.inr rfl)
theorem f112_154 : zft 112 154 = some (.iconst 0, 1) := fet B112 (by decide +kernel) (Or.inr rfl)
theorem f112_155 : zft 112 155 = some (.istore 6, 2) := fet B112 (by decide +kernel) (Or.inr rfl)
theorem f112_157 : zft 112 157 = some (.iload 6, 2) := fet B112 (by decide +kernel) (Or.inr rfl)
theorem f112_159 : zft 112 159 = some (.iload 5, 2) := fet B112 (by decide +kernel) (Or.inr rfl)
theorem f112_161 : zft 112 161 = some (.if_icmp .ge 31, 3) := fet B112 (by decide +kernel) (Or.inr rfl)
theorem f112_164 : zft 112 164 = some (.aload_n 0, 1) := fet B112 (by decide +kernel) (Or.inr rfl)
theorem f112_165 : zft 112 165 = some (.getfield 16, 3) := fet B112 (by decide +kernel) (Or.inr rfl)
theorem f112_168 : zft 112 168 = some (.bipush 60, 2) := fet B112 (by decide +kernel) (Or.inr rfl)
theorem f112_170 : zft 112 170 = some (.iload_n 3, 1) := fet B112 (by decide +kernel) (Or.inr rfl)
theorem f112_171 : zft 112 171 = some (.imul, 1) := fet B112 (by decide +kernel) (Or.inr rfl)
theorem f112_172 : zft 112 172 = some (.iload 4, 2) := fet B112 (by decide +kernel) (Or.inr rfl)
theorem f112_174 : zft 112 174 = some (.iadd, 1) := fet B112 (by decide +kernel) (Or.inr rfl)
theorem f112_175 : zft 112 175 = some (.iload 6, 2) := fet B112 (by decide +kernel) (Or.inr rfl)
theorem f112_177 : zft 112 177 = some (.iadd, 1) := fet B112 (by decide +kernel) (Or.inr rfl)
theorem f112_178 : zft 112 178 = some (.aload_n 0, 1) := fet B112 (by decide +kernel) (Or.inr rfl)
theorem f112_179 : zft 112 179 = some (.getfield 19, 3) := fet B112 (by decide +kernel) (Or.inr rfl)
theorem f112_182 : zft 112 182 = some (.iload 6, 2) := fet B112 (by decide +kernel) (Or.inr rfl)
theorem f112_184 : zft 112 184 = some (.iaload, 1) := fet B112 (by decide +kernel) (Or.inr rfl)
theorem f112_185 : zft 112 185 = some (.iastore, 1) := fet B112 (by decide +kernel) (Or.inr rfl)
theorem f112_186 : zft 112 186 = some (.iinc 6 1, 3) := fet B112 (by decide +kernel) (Or.inr rfl)
theorem f112_189 : zft 112 189 = some (.goto (-32), 3) := fet B112 (by decide +kernel) (Or.inr rfl)
theorem f112_192 : zft 112 192 = some (.iconst 1, 1) := fet B112 (by decide +kernel) (Or.inr rfl)
theorem f112_193 : zft 112 193 = some (.ireturn, 1) := fet B112 (by decide +kernel) (Or.inr rfl)
theorem x112_0 : Rn S 112 0 [v0, .int a, v2, v3, v4, v5, v6] st I J Q = Rn S 112 1 [v0, .int a, v2, v3, v4, v5, v6] (.int a :: st) I J Q := rL f112_0 rfl rfl
theorem x112_1 : Rn S 112 1 [v0, v1, v2, v3, v4, v5, v6] (.int a0 :: st) I J Q = (zcs st ≤ 8 ∧ Rn S 105 0 [.int a0] [] I J (fun v I' J' => Rn S 112 4 [v0, v1, v2, v3, v4, v5, v6] (v.toList ++ st) I' J' Q)) := rCS (As := [.int a0]) f112_1 rfl rfl rfl rfl (Nat.le_of_ble_eq_true rfl)
theorem x112_4 : Rn S 112 4 [v0, v1, v2, v3, v4, v5, v6] (.int a :: st) I J Q = if a = 0 then Rn S 112 14 [v0, v1, v2, v3, v4, v5, v6] st I J Q else Rn S 112 7 [v0, v1, v2, v3, v4, v5, v6] st I J Q := rIeq f112_4 rfl rfl
theorem x112_7 : Rn S 112 7 [v0, v1, v2, .int a, v4, v5, v6] st I J Q = Rn S 112 8 [v0, v1, v2, .int a, v4, v5, v6] (.int a :: st) I J Q := rL f112_7 rfl rfl
theorem x112_8 : Rn S 112 8 [v0, v1, v2, v3, v4, v5, v6] (.int a0 :: st) I J Q = (zcs st ≤ 8 ∧ Rn S 105 0 [.int a0] [] I J (fun v I' J' => Rn S 112 11 [v0, v1, v2, v3, v4, v5, v6] (v.toList ++ st) I' J' Q)) := rCS (As := [.int a0]) f112_8 rfl rfl rfl rfl (Nat.le_of_ble_eq_true rfl)
theorem x112_11 : Rn S 112 11 [v0, v1, v2, v3, v4, v5, v6] (.int a :: st) I J Q = if a = 0 then Rn S 112 14 [v0, v1, v2, v3, v4, v5, v6] st I J Q else Rn S 112 17 [v0, v1, v2, v3, v4, v5, v6] st I J Q := rIne f112_11 rfl rfl
theorem x112_14 : Rn S 112 14 [v0, v1, v2, v3, v4, v5, v6] st I J Q = Rn S 112 16 [v0, v1, v2, v3, v4, v5, v6] (.int (-2) :: st) I J Q := rS f112_14 rfl
theorem x112_16 : Rn S 112 16 [v0, v1, v2, v3, v4, v5, v6] [.int a] I J Q = Q (some (.int a)) I J := rR f112_16 rfl rfl rfl rfl rfl
theorem x112_17 : Rn S 112 17 [.ref q, v1, v2, v3, v4, v5, v6] st I J Q = Rn S 112 18 [.ref q, v1, v2, v3, v4, v5, v6] (.ref q :: st) I J Q := rL f112_17 rfl rfl
theorem x112_18_65 : Rn (zG xl) 112 18 [v0, v1, v2, v3, v4, v5, v6] (.ref 65 :: st) I J Q = Rn (zG xl) 112 21 [v0, v1, v2, v3, v4, v5, v6] (.ref 66 :: st) I J Q := (rGf f112_18 rfl).trans (tr_and rfl)
theorem x112_21 : Rn S 112 21 [v0, .int a, v2, v3, v4, v5, v6] st I J Q = Rn S 112 22 [v0, .int a, v2, v3, v4, v5, v6] (.int a :: st) I J Q := rL f112_21 rfl rfl
theorem x112_22 : Rn S 112 22 [v0, v1, v2, v3, v4, v5, v6] (.int a :: .ref q :: st) I J Q = (zai S q a ∧ Rn S 112 23 [v0, v1, v2, v3, v4, v5, v6] (.int (I q a.toNatClampNeg) :: st) I J Q) := rIal f112_22
theorem x112_23 : Rn S 112 23 [v0, v1, v2, v3, v4, v5, v6] (.int a :: st) I J Q = if a < 0 then Rn S 112 35 [v0, v1, v2, v3, v4, v5, v6] st I J Q else Rn S 112 26 [v0, v1, v2, v3, v4, v5, v6] st I J Q := rIlt f112_23 rfl rfl
theorem x112_26 : Rn S 112 26 [.ref q, v1, v2, v3, v4, v5, v6] st I J Q = Rn S 112 27 [.ref q, v1, v2, v3, v4, v5, v6] (.ref q :: st) I J Q := rL f112_26 rfl rfl
theorem x112_27_65 : Rn (zG xl) 112 27 [v0, v1, v2, v3, v4, v5, v6] (.ref 65 :: st) I J Q = Rn (zG xl) 112 30 [v0, v1, v2, v3, v4, v5, v6] (.ref 66 :: st) I J Q := (rGf f112_27 rfl).trans (tr_and rfl)
theorem x112_30 : Rn S 112 30 [v0, v1, v2, .int a, v4, v5, v6] st I J Q = Rn S 112 31 [v0, v1, v2, .int a, v4, v5, v6] (.int a :: st) I J Q := rL f112_30 rfl rfl
theorem x112_31 : Rn S 112 31 [v0, v1, v2, v3, v4, v5, v6] (.int a :: .ref q :: st) I J Q = (zai S q a ∧ Rn S 112 32 [v0, v1, v2, v3, v4, v5, v6] (.int (I q a.toNatClampNeg) :: st) I J Q) := rIal f112_31
theorem x112_32 : Rn S 112 32 [v0, v1, v2, v3, v4, v5, v6] (.int a :: st) I J Q = if a < 0 then Rn S 112 35 [v0, v1, v2, v3, v4, v5, v6] st I J Q else Rn S 112 41 [v0, v1, v2, v3, v4, v5, v6] st I J Q := rIge f112_32 rfl rfl
theorem x112_35 : Rn S 112 35 [.ref q, v1, v2, v3, v4, v5, v6] st I J Q = Rn S 112 36 [.ref q, v1, v2, v3, v4, v5, v6] (.ref q :: st) I J Q := rL f112_35 rfl rfl
theorem x112_36 : Rn S 112 36 [v0, v1, v2, v3, v4, v5, v6] st I J Q = Rn S 112 37 [v0, v1, v2, v3, v4, v5, v6] (.int 1 :: st) I J Q := rS f112_36 rfl
theorem x112_37 : Rn S 112 37 [v0, v1, v2, v3, v4, v5, v6] (.int a0 :: .ref q :: st) I J Q = ((zcls S q = 6 ∧ zcs st ≤ 8) ∧ Rn S 104 0 [.ref q, .int a0] [] I J (fun v I' J' => Rn S 112 40 [v0, v1, v2, v3, v4, v5, v6] (v.toList ++ st) I' J' Q)) := rCV (As := [.int a0]) f112_37 rfl rfl rfl rfl (Nat.le_of_ble_eq_true rfl)
theorem x112_40 : Rn S 112 40 [v0, v1, v2, v3, v4, v5, v6] [.int a] I J Q = Q (some (.int a)) I J := rR f112_40 rfl rfl rfl rfl rfl
theorem x112_41 : Rn S 112 41 [.ref q, v1, v2, v3, v4, v5, v6] st I J Q = Rn S 112 42 [.ref q, v1, v2, v3, v4, v5, v6] (.ref q :: st) I J Q := rL f112_41 rfl rfl
theorem x112_42_65 : Rn (zG xl) 112 42 [v0, v1, v2, v3, v4, v5, v6] (.ref 65 :: st) I J Q = Rn (zG xl) 112 45 [v0, v1, v2, v3, v4, v5, v6] (.ref 66 :: st) I J Q := (rGf f112_42 rfl).trans (tr_and rfl)
theorem x112_45 : Rn S 112 45 [v0, .int a, v2, v3, v4, v5, v6] st I J Q = Rn S 112 46 [v0, .int a, v2, v3, v4, v5, v6] (.int a :: st) I J Q := rL f112_45 rfl rfl
theorem x112_46 : Rn S 112 46 [v0, v1, v2, v3, v4, v5, v6] (.int a :: .ref q :: st) I J Q = (zai S q a ∧ Rn S 112 47 [v0, v1, v2, v3, v4, v5, v6] (.int (I q a.toNatClampNeg) :: st) I J Q) := rIal f112_46
theorem x112_47 : Rn S 112 47 [.ref q, v1, v2, v3, v4, v5, v6] st I J Q = Rn S 112 48 [.ref q, v1, v2, v3, v4, v5, v6] (.ref q :: st) I J Q := rL f112_47 rfl rfl
theorem x112_48_65 : Rn (zG xl) 112 48 [v0, v1, v2, v3, v4, v5, v6] (.ref 65 :: st) I J Q = Rn (zG xl) 112 51 [v0, v1, v2, v3, v4, v5, v6] (.ref 66 :: st) I J Q := (rGf f112_48 rfl).trans (tr_and rfl)
theorem x112_51 : Rn S 112 51 [v0, v1, v2, .int a, v4, v5, v6] st I J Q = Rn S 112 52 [v0, v1, v2, .int a, v4, v5, v6] (.int a :: st) I J Q := rL f112_51 rfl rfl
theorem x112_52 : Rn S 112 52 [v0, v1, v2, v3, v4, v5, v6] (.int a :: .ref q :: st) I J Q = (zai S q a ∧ Rn S 112 53 [v0, v1, v2, v3, v4, v5, v6] (.int (I q a.toNatClampNeg) :: st) I J Q) := rIal f112_52
theorem x112_53 : Rn S 112 53 [v0, v1, v2, v3, v4, v5, v6] (.int b :: .int a :: st) I J Q = if a = b then Rn S 112 62 [v0, v1, v2, v3, v4, v5, v6] st I J Q else Rn S 112 56 [v0, v1, v2, v3, v4, v5, v6] st I J Q := rCeq f112_53 rfl rfl
theorem x112_56 : Rn S 112 56 [.ref q, v1, v2, v3, v4, v5, v6] st I J Q = Rn S 112 57 [.ref q, v1, v2, v3, v4, v5, v6] (.ref q :: st) I J Q := rL f112_56 rfl rfl
theorem x112_57 : Rn S 112 57 [v0, v1, v2, v3, v4, v5, v6] st I J Q = Rn S 112 58 [v0, v1, v2, v3, v4, v5, v6] (.int 4 :: st) I J Q := rS f112_57 rfl
theorem x112_58 : Rn S 112 58 [v0, v1, v2, v3, v4, v5, v6] (.int a0 :: .ref q :: st) I J Q = ((zcls S q = 6 ∧ zcs st ≤ 8) ∧ Rn S 104 0 [.ref q, .int a0] [] I J (fun v I' J' => Rn S 112 61 [v0, v1, v2, v3, v4, v5, v6] (v.toList ++ st) I' J' Q)) := rCV (As := [.int a0]) f112_58 rfl rfl rfl rfl (Nat.le_of_ble_eq_true rfl)
theorem x112_61 : Rn S 112 61 [v0, v1, v2, v3, v4, v5, v6] [.int a] I J Q = Q (some (.int a)) I J := rR f112_61 rfl rfl rfl rfl rfl
theorem x112_62 : Rn S 112 62 [v0, v1, .int a, v3, v4, v5, v6] st I J Q = Rn S 112 63 [v0, v1, .int a, v3, v4, v5, v6] (.int a :: st) I J Q := rL f112_62 rfl rfl
theorem x112_63 : Rn S 112 63 [v0, v1, v2, v3, v4, v5, v6] (.int a :: st) I J Q = if a < 0 then Rn S 112 111 [v0, v1, v2, v3, v4, v5, v6] st I J Q else Rn S 112 66 [v0, v1, v2, v3, v4, v5, v6] st I J Q := rIlt f112_63 rfl rfl
theorem x112_66 : Rn S 112 66 [v0, v1, v2, v3, .int a, v5, v6] st I J Q = Rn S 112 68 [v0, v1, v2, v3, .int a, v5, v6] (.int a :: st) I J Q := rL f112_66 rfl rfl
theorem x112_68 : Rn S 112 68 [v0, v1, v2, v3, v4, v5, v6] (.int a :: st) I J Q = if a < 0 then Rn S 112 111 [v0, v1, v2, v3, v4, v5, v6] st I J Q else Rn S 112 71 [v0, v1, v2, v3, v4, v5, v6] st I J Q := rIlt f112_68 rfl rfl
theorem x112_71 : Rn S 112 71 [v0, v1, v2, v3, v4, .int a, v6] st I J Q = Rn S 112 73 [v0, v1, v2, v3, v4, .int a, v6] (.int a :: st) I J Q := rL f112_71 rfl rfl
theorem x112_73 : Rn S 112 73 [v0, v1, v2, v3, v4, v5, v6] (.int a :: st) I J Q = if a < 0 then Rn S 112 111 [v0, v1, v2, v3, v4, v5, v6] st I J Q else Rn S 112 76 [v0, v1, v2, v3, v4, v5, v6] st I J Q := rIlt f112_73 rfl rfl
theorem x112_76 : Rn S 112 76 [v0, v1, .int a, v3, v4, v5, v6] st I J Q = Rn S 112 77 [v0, v1, .int a, v3, v4, v5, v6] (.int a :: st) I J Q := rL f112_76 rfl rfl
theorem x112_77 : Rn S 112 77 [v0, v1, v2, v3, v4, v5, v6] (.int a :: st) I J Q = Rn S 112 78 [v0, v1, v2, v3, v4, v5, v6] (.long a.toInt64 :: st) I J Q := rS f112_77 rfl
theorem x112_78 : Rn S 112 78 [v0, v1, v2, v3, v4, .int a, v6] st I J Q = Rn S 112 80 [v0, v1, v2, v3, v4, .int a, v6] (.int a :: st) I J Q := rL f112_78 rfl rfl
theorem x112_80 : Rn S 112 80 [v0, v1, v2, v3, v4, v5, v6] (.int a :: st) I J Q = Rn S 112 81 [v0, v1, v2, v3, v4, v5, v6] (.long a.toInt64 :: st) I J Q := rS f112_80 rfl
theorem x112_81 : Rn S 112 81 [v0, v1, v2, v3, v4, v5, v6] (.long w :: .long u :: st) I J Q = Rn S 112 82 [v0, v1, v2, v3, v4, v5, v6] (.long (u + w) :: st) I J Q := rS f112_81 rfl
theorem x112_82 : Rn S 112 82 [.ref q, v1, v2, v3, v4, v5, v6] st I J Q = Rn S 112 83 [.ref q, v1, v2, v3, v4, v5, v6] (.ref q :: st) I J Q := rL f112_82 rfl rfl
theorem x112_83_65 : Rn (zG xl) 112 83 [v0, v1, v2, v3, v4, v5, v6] (.ref 65 :: st) I J Q = Rn (zG xl) 112 86 [v0, v1, v2, v3, v4, v5, v6] (.ref 67 :: st) I J Q := (rGf f112_83 rfl).trans (tr_and rfl)
theorem x112_86 : Rn S 112 86 [v0, .int a, v2, v3, v4, v5, v6] st I J Q = Rn S 112 87 [v0, .int a, v2, v3, v4, v5, v6] (.int a :: st) I J Q := rL f112_86 rfl rfl
theorem x112_87 : Rn S 112 87 [v0, v1, v2, v3, v4, v5, v6] (.int a :: .ref q :: st) I J Q = (zai S q a ∧ Rn S 112 88 [v0, v1, v2, v3, v4, v5, v6] (.int (I q a.toNatClampNeg) :: st) I J Q) := rIal f112_87
theorem x112_88 : Rn S 112 88 [v0, v1, v2, v3, v4, v5, v6] (.int a :: st) I J Q = Rn S 112 89 [v0, v1, v2, v3, v4, v5, v6] (.long a.toInt64 :: st) I J Q := rS f112_88 rfl
theorem x112_89 : Rn S 112 89 [v0, v1, v2, v3, v4, v5, v6] (.long w :: .long u :: st) I J Q = Rn S 112 90 [v0, v1, v2, v3, v4, v5, v6] (.int (lg_cmp u w) :: st) I J Q := rS f112_89 rfl
theorem x112_90 : Rn S 112 90 [v0, v1, v2, v3, v4, v5, v6] (.int a :: st) I J Q = if 0 < a then Rn S 112 111 [v0, v1, v2, v3, v4, v5, v6] st I J Q else Rn S 112 93 [v0, v1, v2, v3, v4, v5, v6] st I J Q := rIgt f112_90 rfl rfl
theorem x112_93 : Rn S 112 93 [v0, v1, v2, v3, .int a, v5, v6] st I J Q = Rn S 112 95 [v0, v1, v2, v3, .int a, v5, v6] (.int a :: st) I J Q := rL f112_93 rfl rfl
theorem x112_95 : Rn S 112 95 [v0, v1, v2, v3, v4, v5, v6] (.int a :: st) I J Q = Rn S 112 96 [v0, v1, v2, v3, v4, v5, v6] (.long a.toInt64 :: st) I J Q := rS f112_95 rfl
theorem x112_96 : Rn S 112 96 [v0, v1, v2, v3, v4, .int a, v6] st I J Q = Rn S 112 98 [v0, v1, v2, v3, v4, .int a, v6] (.int a :: st) I J Q := rL f112_96 rfl rfl
theorem x112_98 : Rn S 112 98 [v0, v1, v2, v3, v4, v5, v6] (.int a :: st) I J Q = Rn S 112 99 [v0, v1, v2, v3, v4, v5, v6] (.long a.toInt64 :: st) I J Q := rS f112_98 rfl
theorem x112_99 : Rn S 112 99 [v0, v1, v2, v3, v4, v5, v6] (.long w :: .long u :: st) I J Q = Rn S 112 100 [v0, v1, v2, v3, v4, v5, v6] (.long (u + w) :: st) I J Q := rS f112_99 rfl
theorem x112_100 : Rn S 112 100 [.ref q, v1, v2, v3, v4, v5, v6] st I J Q = Rn S 112 101 [.ref q, v1, v2, v3, v4, v5, v6] (.ref q :: st) I J Q := rL f112_100 rfl rfl
theorem x112_101_65 : Rn (zG xl) 112 101 [v0, v1, v2, v3, v4, v5, v6] (.ref 65 :: st) I J Q = Rn (zG xl) 112 104 [v0, v1, v2, v3, v4, v5, v6] (.ref 67 :: st) I J Q := (rGf f112_101 rfl).trans (tr_and rfl)
theorem x112_104 : Rn S 112 104 [v0, v1, v2, .int a, v4, v5, v6] st I J Q = Rn S 112 105 [v0, v1, v2, .int a, v4, v5, v6] (.int a :: st) I J Q := rL f112_104 rfl rfl
theorem x112_105 : Rn S 112 105 [v0, v1, v2, v3, v4, v5, v6] (.int a :: .ref q :: st) I J Q = (zai S q a ∧ Rn S 112 106 [v0, v1, v2, v3, v4, v5, v6] (.int (I q a.toNatClampNeg) :: st) I J Q) := rIal f112_105
theorem x112_106 : Rn S 112 106 [v0, v1, v2, v3, v4, v5, v6] (.int a :: st) I J Q = Rn S 112 107 [v0, v1, v2, v3, v4, v5, v6] (.long a.toInt64 :: st) I J Q := rS f112_106 rfl
theorem x112_107 : Rn S 112 107 [v0, v1, v2, v3, v4, v5, v6] (.long w :: .long u :: st) I J Q = Rn S 112 108 [v0, v1, v2, v3, v4, v5, v6] (.int (lg_cmp u w) :: st) I J Q := rS f112_107 rfl
theorem x112_108 : Rn S 112 108 [v0, v1, v2, v3, v4, v5, v6] (.int a :: st) I J Q = if 0 < a then Rn S 112 111 [v0, v1, v2, v3, v4, v5, v6] st I J Q else Rn S 112 117 [v0, v1, v2, v3, v4, v5, v6] st I J Q := rIle f112_108 rfl rfl
theorem x112_111 : Rn S 112 111 [.ref q, v1, v2, v3, v4, v5, v6] st I J Q = Rn S 112 112 [.ref q, v1, v2, v3, v4, v5, v6] (.ref q :: st) I J Q := rL f112_111 rfl rfl
theorem x112_112 : Rn S 112 112 [v0, v1, v2, v3, v4, v5, v6] st I J Q = Rn S 112 113 [v0, v1, v2, v3, v4, v5, v6] (.int 2 :: st) I J Q := rS f112_112 rfl
theorem x112_113 : Rn S 112 113 [v0, v1, v2, v3, v4, v5, v6] (.int a0 :: .ref q :: st) I J Q = ((zcls S q = 6 ∧ zcs st ≤ 8) ∧ Rn S 104 0 [.ref q, .int a0] [] I J (fun v I' J' => Rn S 112 116 [v0, v1, v2, v3, v4, v5, v6] (v.toList ++ st) I' J' Q)) := rCV (As := [.int a0]) f112_113 rfl rfl rfl rfl (Nat.le_of_ble_eq_true rfl)
theorem x112_116 : Rn S 112 116 [v0, v1, v2, v3, v4, v5, v6] [.int a] I J Q = Q (some (.int a)) I J := rR f112_116 rfl rfl rfl rfl rfl
theorem x112_117 : Rn S 112 117 [v0, v1, v2, v3, v4, v5, v6] st I J Q = Rn S 112 118 [v0, v1, v2, v3, v4, v5, v6] (.int 0 :: st) I J Q := rS f112_117 rfl
theorem x112_118 : Rn S 112 118 [v0, v1, v2, v3, v4, v5, v6] (.int a :: st) I J Q = Rn S 112 120 [v0, v1, v2, v3, v4, zkl v5, .int a] st I J Q := rL f112_118 rfl rfl
theorem h112_120 : Rn S 112 120 [v0, v1, v2, v3, v4, v5, .int a] st I J Q = Rn S 112 122 [v0, v1, v2, v3, v4, v5, .int a] (.int a :: st) I J Q := rL f112_120 rfl rfl
theorem x112_122 : Rn S 112 122 [v0, v1, v2, v3, v4, .int a, v6] st I J Q = Rn S 112 124 [v0, v1, v2, v3, v4, .int a, v6] (.int a :: st) I J Q := rL f112_122 rfl rfl
theorem x112_124 : Rn S 112 124 [v0, v1, v2, v3, v4, v5, v6] (.int b :: .int a :: st) I J Q = if a < b then Rn S 112 127 [v0, v1, v2, v3, v4, v5, v6] st I J Q else Rn S 112 154 [v0, v1, v2, v3, v4, v5, v6] st I J Q := rCge f112_124 rfl rfl
theorem x112_127 : Rn S 112 127 [.ref q, v1, v2, v3, v4, v5, v6] st I J Q = Rn S 112 128 [.ref q, v1, v2, v3, v4, v5, v6] (.ref q :: st) I J Q := rL f112_127 rfl rfl
theorem x112_128_65 : Rn (zG xl) 112 128 [v0, v1, v2, v3, v4, v5, v6] (.ref 65 :: st) I J Q = Rn (zG xl) 112 131 [v0, v1, v2, v3, v4, v5, v6] (.ref 69 :: st) I J Q := (rGf f112_128 rfl).trans (tr_and rfl)
theorem x112_131 : Rn S 112 131 [v0, v1, v2, v3, v4, v5, .int a] st I J Q = Rn S 112 133 [v0, v1, v2, v3, v4, v5, .int a] (.int a :: st) I J Q := rL f112_131 rfl rfl
theorem x112_133 : Rn S 112 133 [.ref q, v1, v2, v3, v4, v5, v6] st I J Q = Rn S 112 134 [.ref q, v1, v2, v3, v4, v5, v6] (.ref q :: st) I J Q := rL f112_133 rfl rfl
theorem x112_134_65 : Rn (zG xl) 112 134 [v0, v1, v2, v3, v4, v5, v6] (.ref 65 :: st) I J Q = Rn (zG xl) 112 137 [v0, v1, v2, v3, v4, v5, v6] (.ref 68 :: st) I J Q := (rGf f112_134 rfl).trans (tr_and rfl)
theorem x112_137 : Rn S 112 137 [v0, v1, v2, v3, v4, v5, v6] st I J Q = Rn S 112 139 [v0, v1, v2, v3, v4, v5, v6] (.int 60 :: st) I J Q := rS f112_137 rfl
theorem x112_139 : Rn S 112 139 [v0, .int a, v2, v3, v4, v5, v6] st I J Q = Rn S 112 140 [v0, .int a, v2, v3, v4, v5, v6] (.int a :: st) I J Q := rL f112_139 rfl rfl
theorem x112_140 : Rn S 112 140 [v0, v1, v2, v3, v4, v5, v6] (.int b :: .int a :: st) I J Q = Rn S 112 141 [v0, v1, v2, v3, v4, v5, v6] (.int (a * b) :: st) I J Q := rS f112_140 rfl
theorem x112_141 : Rn S 112 141 [v0, v1, .int a, v3, v4, v5, v6] st I J Q = Rn S 112 142 [v0, v1, .int a, v3, v4, v5, v6] (.int a :: st) I J Q := rL f112_141 rfl rfl
theorem x112_142 : Rn S 112 142 [v0, v1, v2, v3, v4, v5, v6] (.int b :: .int a :: st) I J Q = Rn S 112 143 [v0, v1, v2, v3, v4, v5, v6] (.int (a + b) :: st) I J Q := rS f112_142 rfl
theorem x112_143 : Rn S 112 143 [v0, v1, v2, v3, v4, v5, .int a] st I J Q = Rn S 112 145 [v0, v1, v2, v3, v4, v5, .int a] (.int a :: st) I J Q := rL f112_143 rfl rfl
theorem x112_145 : Rn S 112 145 [v0, v1, v2, v3, v4, v5, v6] (.int b :: .int a :: st) I J Q = Rn S 112 146 [v0, v1, v2, v3, v4, v5, v6] (.int (a + b) :: st) I J Q := rS f112_145 rfl
theorem x112_146 : Rn S 112 146 [v0, v1, v2, v3, v4, v5, v6] (.int a :: .ref q :: st) I J Q = (zai S q a ∧ Rn S 112 147 [v0, v1, v2, v3, v4, v5, v6] (.int (I q a.toNatClampNeg) :: st) I J Q) := rIal f112_146
theorem x112_147 : Rn S 112 147 [v0, v1, v2, v3, v4, v5, v6] (.int b :: .int a :: .ref q :: st) I J Q = (zas S q a ∧ Rn S 112 148 [v0, v1, v2, v3, v4, v5, v6] st (zr I q (upd (I q) a.toNatClampNeg b)) J Q) := rIas f112_147
theorem x112_148 : Rn S 112 148 [v0, v1, v2, v3, v4, v5, .int a] st I J Q = Rn S 112 151 [v0, v1, v2, v3, v4, zkl v5, .int (a + 1)] st I J Q := rL f112_148 rfl rfl
theorem x112_151 : Rn S 112 151 [v0, v1, v2, v3, v4, v5, v6] st I J Q = Rn S 112 120 [v0, v1, v2, v3, v4, v5, v6] st I J Q := rB f112_151 rfl rfl rfl
theorem x112_154 : Rn S 112 154 [v0, v1, v2, v3, v4, v5, v6] st I J Q = Rn S 112 155 [v0, v1, v2, v3, v4, v5, v6] (.int 0 :: st) I J Q := rS f112_154 rfl
theorem x112_155 : Rn S 112 155 [v0, v1, v2, v3, v4, v5, v6] (.int a :: st) I J Q = Rn S 112 157 [v0, v1, v2, v3, v4, zkl v5, .int a] st I J Q := rL f112_155 rfl rfl
theorem h112_157 : Rn S 112 157 [v0, v1, v2, v3, v4, v5, .int a] st I J Q = Rn S 112 159 [v0, v1, v2, v3, v4, v5, .int a] (.int a :: st) I J Q := rL f112_157 rfl rfl
theorem x112_159 : Rn S 112 159 [v0, v1, v2, v3, v4, .int a, v6] st I J Q = Rn S 112 161 [v0, v1, v2, v3, v4, .int a, v6] (.int a :: st) I J Q := rL f112_159 rfl rfl
theorem x112_161 : Rn S 112 161 [v0, v1, v2, v3, v4, v5, v6] (.int b :: .int a :: st) I J Q = if a < b then Rn S 112 164 [v0, v1, v2, v3, v4, v5, v6] st I J Q else Rn S 112 192 [v0, v1, v2, v3, v4, v5, v6] st I J Q := rCge f112_161 rfl rfl
theorem x112_164 : Rn S 112 164 [.ref q, v1, v2, v3, v4, v5, v6] st I J Q = Rn S 112 165 [.ref q, v1, v2, v3, v4, v5, v6] (.ref q :: st) I J Q := rL f112_164 rfl rfl
theorem x112_165_65 : Rn (zG xl) 112 165 [v0, v1, v2, v3, v4, v5, v6] (.ref 65 :: st) I J Q = Rn (zG xl) 112 168 [v0, v1, v2, v3, v4, v5, v6] (.ref 68 :: st) I J Q := (rGf f112_165 rfl).trans (tr_and rfl)
theorem x112_168 : Rn S 112 168 [v0, v1, v2, v3, v4, v5, v6] st I J Q = Rn S 112 170 [v0, v1, v2, v3, v4, v5, v6] (.int 60 :: st) I J Q := rS f112_168 rfl
theorem x112_170 : Rn S 112 170 [v0, v1, v2, .int a, v4, v5, v6] st I J Q = Rn S 112 171 [v0, v1, v2, .int a, v4, v5, v6] (.int a :: st) I J Q := rL f112_170 rfl rfl
theorem x112_171 : Rn S 112 171 [v0, v1, v2, v3, v4, v5, v6] (.int b :: .int a :: st) I J Q = Rn S 112 172 [v0, v1, v2, v3, v4, v5, v6] (.int (a * b) :: st) I J Q := rS f112_171 rfl
theorem x112_172 : Rn S 112 172 [v0, v1, v2, v3, .int a, v5, v6] st I J Q = Rn S 112 174 [v0, v1, v2, v3, .int a, v5, v6] (.int a :: st) I J Q := rL f112_172 rfl rfl
theorem x112_174 : Rn S 112 174 [v0, v1, v2, v3, v4, v5, v6] (.int b :: .int a :: st) I J Q = Rn S 112 175 [v0, v1, v2, v3, v4, v5, v6] (.int (a + b) :: st) I J Q := rS f112_174 rfl
theorem x112_175 : Rn S 112 175 [v0, v1, v2, v3, v4, v5, .int a] st I J Q = Rn S 112 177 [v0, v1, v2, v3, v4, v5, .int a] (.int a :: st) I J Q := rL f112_175 rfl rfl
theorem x112_177 : Rn S 112 177 [v0, v1, v2, v3, v4, v5, v6] (.int b :: .int a :: st) I J Q = Rn S 112 178 [v0, v1, v2, v3, v4, v5, v6] (.int (a + b) :: st) I J Q := rS f112_177 rfl
theorem x112_178 : Rn S 112 178 [.ref q, v1, v2, v3, v4, v5, v6] st I J Q = Rn S 112 179 [.ref q, v1, v2, v3, v4, v5, v6] (.ref q :: st) I J Q := rL f112_178 rfl rfl
theorem x112_179_65 : Rn (zG xl) 112 179 [v0, v1, v2, v3, v4, v5, v6] (.ref 65 :: st) I J Q = Rn (zG xl) 112 182 [v0, v1, v2, v3, v4, v5, v6] (.ref 69 :: st) I J Q := (rGf f112_179 rfl).trans (tr_and rfl)
theorem x112_182 : Rn S 112 182 [v0, v1, v2, v3, v4, v5, .int a] st I J Q = Rn S 112 184 [v0, v1, v2, v3, v4, v5, .int a] (.int a :: st) I J Q := rL f112_182 rfl rfl
theorem x112_184 : Rn S 112 184 [v0, v1, v2, v3, v4, v5, v6] (.int a :: .ref q :: st) I J Q = (zai S q a ∧ Rn S 112 185 [v0, v1, v2, v3, v4, v5, v6] (.int (I q a.toNatClampNeg) :: st) I J Q) := rIal f112_184
theorem x112_185 : Rn S 112 185 [v0, v1, v2, v3, v4, v5, v6] (.int b :: .int a :: .ref q :: st) I J Q = (zas S q a ∧ Rn S 112 186 [v0, v1, v2, v3, v4, v5, v6] st (zr I q (upd (I q) a.toNatClampNeg b)) J Q) := rIas f112_185
theorem x112_186 : Rn S 112 186 [v0, v1, v2, v3, v4, v5, .int a] st I J Q = Rn S 112 189 [v0, v1, v2, v3, v4, zkl v5, .int (a + 1)] st I J Q := rL f112_186 rfl rfl
theorem x112_189 : Rn S 112 189 [v0, v1, v2, v3, v4, v5, v6] st I J Q = Rn S 112 157 [v0, v1, v2, v3, v4, v5, v6] st I J Q := rB f112_189 rfl rfl rfl
theorem x112_192 : Rn S 112 192 [v0, v1, v2, v3, v4, v5, v6] st I J Q = Rn S 112 193 [v0, v1, v2, v3, v4, v5, v6] (.int 1 :: st) I J Q := rS f112_192 rfl
theorem x112_193 : Rn S 112 193 [v0, v1, v2, v3, v4, v5, v6] [.int a] I J Q = Q (some (.int a)) I J := rR f112_193 rfl rfl rfl rfl rfl
/-! X6.isText: 113 -/
theorem B113 : zB 113 = cX6_isText := rfl
theorem f113_0 : zft 113 0 = some (.iload_n 0, 1) := fet B113 (by decide +kernel) (Or.inr rfl)
theorem f113_1 : zft 113 1 = some (.i2l, 1) := fet B113 (by decide +kernel) (Or.inr rfl)
theorem f113_2 : zft 113 2 = some (.lconst 0, 1) := fet B113 (by decide +kernel) (Or.inr rfl)
theorem f113_3 : zft 113 3 = some (.ldc2_w 99, 3) := fet B113 (by decide +kernel) (Or.inr rfl)
theorem f113_6 : zft 113 6 = some (.invokestatic 86, 3) := fet B113 (by decide +kernel) (Or.inr rfl)
theorem f113_9 : zft 113 9 = some (.ireturn, 1) := fet B113 (by decide +kernel) (Or.inr rfl)
theorem x113_0 : Rn S 113 0 [.int a] st I J Q = Rn S 113 1 [.int a] (.int a :: st) I J Q := rL f113_0 rfl rfl
theorem x113_1 : Rn S 113 1 [v0] (.int a :: st) I J Q = Rn S 113 2 [v0] (.long a.toInt64 :: st) I J Q := rS f113_1 rfl
theorem x113_2 : Rn S 113 2 [v0] st I J Q = Rn S 113 3 [v0] (.long 0 :: st) I J Q := rS f113_2 rfl
theorem x113_3 : Rn S 113 3 [v0] st I J Q = Rn S 113 6 [v0] (.long 2 :: st) I J Q := rS f113_3 rfl
theorem x113_6 : Rn S 113 6 [v0] (.long u2 :: .long u1 :: .long u0 :: st) I J Q = (zcs st ≤ 8 ∧ Rn S 96 0 [.long u0, .null, .long u1, .null, .long u2, .null] [] I J (fun v I' J' => Rn S 113 9 [v0] (v.toList ++ st) I' J' Q)) := rCS (As := [.long u0, .long u1, .long u2]) f113_6 rfl rfl rfl rfl (Nat.le_of_ble_eq_true rfl)
theorem x113_9 : Rn S 113 9 [v0] [.int a] I J Q = ((a = 0 ∨ a = 1) ∧ Q (some (.int a)) I J) := rRZ f113_9 (Or.inl rfl)
/-! X6.type: 114 -/
theorem B114 : zB 114 = cX6_type := rfl
theorem f114_0 : zft 114 0 = some (.iload_n 1, 1) := fet B114 (by decide +kernel) (Or.inr rfl)
theorem f114_1 : zft 114 1 = some (.invokestatic 114, 3) := fet B114 (by decide +kernel) (Or.inr rfl)
theorem f114_4 : zft 114 4 = some (.ifCond .eq 15, 3) := fet B114 (by decide +kernel) (Or.inr rfl)
theorem f114_7 : zft 114 7 = some (.iload_n 2, 1) := fet B114 (by decide +kernel) (Or.inr rfl)
theorem f114_8 : zft 114 8 = some (.i2l, 1) := fet B114 (by decide +kernel) (Or.inr rfl)
theorem f114_9 : zft 114 9 = some (.lconst 0, 1) := fet B114 (by decide +kernel) (Or.inr rfl)
theorem f114_10 : zft 114 10 = some (.ldc2_w 117, 3) := fet B114 (by decide +kernel) (Or.inr rfl)
theorem f114_13 : zft 114 13 = some (.invokestatic 86, 3) := fet B114 (by decide +kernel) (Or.inr rfl)
theorem f114_16 : zft 114 16 = some (.ifCond .ne 6, 3) := fet B114 (by decide +kernel) (Or.inr rfl)
theorem f114_19 : zft 114 19 = some (.bipush (-2), 2) := fet B114 (by decide +kernel) (Or.inr rfl)
theorem f114_21 : zft 114 21 = some (.ireturn, 1) := fet B114 (by decide +kernel) (Or.inr rfl)
theorem f114_22 : zft 114 22 = some (.aload_n 0, 1) := fet B114 (by decide +kernel) (Or.inr rfl)
theorem f114_23 : zft 114 23 = some (.getfield 25, 3) := fet B114 (by decide +kernel) (Or.inr rfl)
theorem f114_26 : zft 114 26 = some (.iload_n 1, 1) := fet B114 (by decide +kernel) (Or.inr rfl)
theorem f114_27 : zft 114 27 = some (.iaload, 1) := fet B114 (by decide +kernel) (Or.inr rfl)
theorem f114_28 : zft 114 28 = some (.iload_n 1, 1) := fet B114 (by decide +kernel) (Or.inr rfl)
theorem f114_29 : zft 114 29 = some (.ifCond .ne 8, 3) := fet B114 (by decide +kernel) (Or.inr rfl)
theorem f114_32 : zft 114 32 = some (.bipush 29, 2) := fet B114 (by decide +kernel) (Or.inr rfl)
theorem f114_34 : zft 114 34 = some (.goto 15, 3) := fet B114 (by decide +kernel) (Or.inr rfl)
theorem f114_37 : zft 114 37 = some (.iload_n 1, 1) := fet B114 (by decide +kernel) (Or.inr rfl)
theorem f114_38 : zft 114 38 = some (.iconst 1, 1) := fet B114 (by decide +kernel) (Or.inr rfl)
theorem f114_39 : zft 114 39 = some (.if_icmp .ne 8, 3) := fet B114 (by decide +kernel) (Or.inr rfl)
theorem f114_42 : zft 114 42 = some (.bipush 17, 2) := fet B114 (by decide +kernel) (Or.inr rfl)
theorem f114_44 : zft 114 44 = some (.goto 5, 3) := fet B114 (by decide +kernel) (Or.inr rfl)
theorem f114_47 : zft 114 47 = some (.bipush 47, 2) := fet B114 (by decide +kernel) (Or.inr rfl)
theorem f114_49 : zft 114 49 = some (.if_icmp .ne 6, 3) := fet B114 (by decide +kernel) (Or.inr rfl)
theorem f114_52 : zft 114 52 = some (.bipush (-4), 2) := fet B114 (by decide +kernel) (Or.inr rfl)
theorem f114_54 : zft 114 54 = some (.ireturn, 1) := fet B114 (by decide +kernel) (Or.inr rfl)
theorem f114_55 : zft 114 55 = some (.aload_n 0, 1) := fet B114 (by decide +kernel) (Or.inr rfl)
theorem f114_56 : zft 114 56 = some (.getfield 22, 3) := fet B114 (by decide +kernel) (Or.inr rfl)
theorem f114_59 : zft 114 59 = some (.bipush 48, 2) := fet B114 (by decide +kernel) (Or.inr rfl)
theorem f114_61 : zft 114 61 = some (.iload_n 1, 1) := fet B114 (by decide +kernel) (Or.inr rfl)
theorem f114_62 : zft 114 62 = some (.imul, 1) := fet B114 (by decide +kernel) (Or.inr rfl)
theorem f114_63 : zft 114 63 = some (.aload_n 0, 1) := fet B114 (by decide +kernel) (Or.inr rfl)
theorem f114_64 : zft 114 64 = some (.getfield 25, 3) := fet B114 (by decide +kernel) (Or.inr rfl)
theorem f114_67 : zft 114 67 = some (.iload_n 1, 1) := fet B114 (by decide +kernel) (Or.inr rfl)
theorem f114_68 : zft 114 68 = some (.iaload, 1) := fet B114 (by decide +kernel) (Or.inr rfl)
theorem f114_69 : zft 114 69 = some (.iadd, 1) := fet B114 (by decide +kernel) (Or.inr rfl)
theorem f114_70 : zft 114 70 = some (.iload_n 2, 1) := fet B114 (by decide +kernel) (Or.inr rfl)
theorem f114_71 : zft 114 71 = some (.iastore, 1) := fet B114 (by decide +kernel) (Or.inr rfl)
theorem f114_72 : zft 114 72 = some (.aload_n 0, 1) := fet B114 (by decide +kernel) (Or.inr rfl)
theorem f114_73 : zft 114 73 = some (.getfield 25, 3) := fet B114 (by decide +kernel) (Or.inr rfl)
theorem f114_76 : zft 114 76 = some (.iload_n 1, 1) := fet B114 (by decide +kernel) (Or.inr rfl)
theorem f114_77 : zft 114 77 = some (.dup2, 1) := fet B114 (by decide +kernel) (Or.inr rfl)
theorem f114_78 : zft 114 78 = some (.iaload, 1) := fet B114 (by decide +kernel) (Or.inr rfl)
theorem f114_79 : zft 114 79 = some (.iconst 1, 1) := fet B114 (by decide +kernel) (Or.inr rfl)
theorem f114_80 : zft 114 80 = some (.iadd, 1) := fet B114 (by decide +kernel) (Or.inr rfl)
theorem f114_81 : zft 114 81 = some (.iastore, 1) := fet B114 (by decide +kernel) (Or.inr rfl)
theorem f114_82 : zft 114 82 = some (.aload_n 0, 1) := fet B114 (by decide +kernel) (Or.inr rfl)
theorem f114_83 : zft 114 83 = some (.getfield 25, 3) := fet B114 (by decide +kernel) (Or.inr rfl)
theorem f114_86 : zft 114 86 = some (.iload_n 1, 1) := fet B114 (by decide +kernel) (Or.inr rfl)
theorem f114_87 : zft 114 87 = some (.iaload, 1) := fet B114 (by decide +kernel) (Or.inr rfl)
theorem f114_88 : zft 114 88 = some (.ireturn, 1) := fet B114 (by decide +kernel) (Or.inr rfl)
theorem x114_0 : Rn S 114 0 [v0, .int a, v2] st I J Q = Rn S 114 1 [v0, .int a, v2] (.int a :: st) I J Q := rL f114_0 rfl rfl
theorem x114_1 : Rn S 114 1 [v0, v1, v2] (.int a0 :: st) I J Q = (zcs st ≤ 8 ∧ Rn S 113 0 [.int a0] [] I J (fun v I' J' => Rn S 114 4 [v0, v1, v2] (v.toList ++ st) I' J' Q)) := rCS (As := [.int a0]) f114_1 rfl rfl rfl rfl (Nat.le_of_ble_eq_true rfl)
theorem x114_4 : Rn S 114 4 [v0, v1, v2] (.int a :: st) I J Q = if a = 0 then Rn S 114 19 [v0, v1, v2] st I J Q else Rn S 114 7 [v0, v1, v2] st I J Q := rIeq f114_4 rfl rfl
theorem x114_7 : Rn S 114 7 [v0, v1, .int a] st I J Q = Rn S 114 8 [v0, v1, .int a] (.int a :: st) I J Q := rL f114_7 rfl rfl
theorem x114_8 : Rn S 114 8 [v0, v1, v2] (.int a :: st) I J Q = Rn S 114 9 [v0, v1, v2] (.long a.toInt64 :: st) I J Q := rS f114_8 rfl
theorem x114_9 : Rn S 114 9 [v0, v1, v2] st I J Q = Rn S 114 10 [v0, v1, v2] (.long 0 :: st) I J Q := rS f114_9 rfl
theorem x114_10 : Rn S 114 10 [v0, v1, v2] st I J Q = Rn S 114 13 [v0, v1, v2] (.long 255 :: st) I J Q := rS f114_10 rfl
theorem x114_13 : Rn S 114 13 [v0, v1, v2] (.long u2 :: .long u1 :: .long u0 :: st) I J Q = (zcs st ≤ 8 ∧ Rn S 96 0 [.long u0, .null, .long u1, .null, .long u2, .null] [] I J (fun v I' J' => Rn S 114 16 [v0, v1, v2] (v.toList ++ st) I' J' Q)) := rCS (As := [.long u0, .long u1, .long u2]) f114_13 rfl rfl rfl rfl (Nat.le_of_ble_eq_true rfl)
theorem x114_16 : Rn S 114 16 [v0, v1, v2] (.int a :: st) I J Q = if a = 0 then Rn S 114 19 [v0, v1, v2] st I J Q else Rn S 114 22 [v0, v1, v2] st I J Q := rIne f114_16 rfl rfl
theorem x114_19 : Rn S 114 19 [v0, v1, v2] st I J Q = Rn S 114 21 [v0, v1, v2] (.int (-2) :: st) I J Q := rS f114_19 rfl
theorem x114_21 : Rn S 114 21 [v0, v1, v2] [.int a] I J Q = Q (some (.int a)) I J := rR f114_21 rfl rfl rfl rfl rfl
theorem x114_22 : Rn S 114 22 [.ref q, v1, v2] st I J Q = Rn S 114 23 [.ref q, v1, v2] (.ref q :: st) I J Q := rL f114_22 rfl rfl
theorem x114_23_65 : Rn (zG xl) 114 23 [v0, v1, v2] (.ref 65 :: st) I J Q = Rn (zG xl) 114 26 [v0, v1, v2] (.ref 71 :: st) I J Q := (rGf f114_23 rfl).trans (tr_and rfl)
theorem x114_26 : Rn S 114 26 [v0, .int a, v2] st I J Q = Rn S 114 27 [v0, .int a, v2] (.int a :: st) I J Q := rL f114_26 rfl rfl
theorem x114_27 : Rn S 114 27 [v0, v1, v2] (.int a :: .ref q :: st) I J Q = (zai S q a ∧ Rn S 114 28 [v0, v1, v2] (.int (I q a.toNatClampNeg) :: st) I J Q) := rIal f114_27
theorem x114_28 : Rn S 114 28 [v0, .int a, v2] st I J Q = Rn S 114 29 [v0, .int a, v2] (.int a :: st) I J Q := rL f114_28 rfl rfl
theorem x114_29 : Rn S 114 29 [v0, v1, v2] (.int a :: st) I J Q = if a = 0 then Rn S 114 32 [v0, v1, v2] st I J Q else Rn S 114 37 [v0, v1, v2] st I J Q := rIne f114_29 rfl rfl
theorem x114_32 : Rn S 114 32 [v0, v1, v2] st I J Q = Rn S 114 34 [v0, v1, v2] (.int 29 :: st) I J Q := rS f114_32 rfl
theorem x114_34 : Rn S 114 34 [v0, v1, v2] st I J Q = Rn S 114 49 [v0, v1, v2] st I J Q := rB f114_34 rfl rfl rfl
theorem x114_37 : Rn S 114 37 [v0, .int a, v2] st I J Q = Rn S 114 38 [v0, .int a, v2] (.int a :: st) I J Q := rL f114_37 rfl rfl
theorem x114_38 : Rn S 114 38 [v0, v1, v2] st I J Q = Rn S 114 39 [v0, v1, v2] (.int 1 :: st) I J Q := rS f114_38 rfl
theorem x114_39 : Rn S 114 39 [v0, v1, v2] (.int b :: .int a :: st) I J Q = if a = b then Rn S 114 42 [v0, v1, v2] st I J Q else Rn S 114 47 [v0, v1, v2] st I J Q := rCne f114_39 rfl rfl
theorem x114_42 : Rn S 114 42 [v0, v1, v2] st I J Q = Rn S 114 44 [v0, v1, v2] (.int 17 :: st) I J Q := rS f114_42 rfl
theorem x114_44 : Rn S 114 44 [v0, v1, v2] st I J Q = Rn S 114 49 [v0, v1, v2] st I J Q := rB f114_44 rfl rfl rfl
theorem x114_47 : Rn S 114 47 [v0, v1, v2] st I J Q = Rn S 114 49 [v0, v1, v2] (.int 47 :: st) I J Q := rS f114_47 rfl
theorem x114_49 : Rn S 114 49 [v0, v1, v2] (.int b :: .int a :: st) I J Q = if a = b then Rn S 114 52 [v0, v1, v2] st I J Q else Rn S 114 55 [v0, v1, v2] st I J Q := rCne f114_49 rfl rfl
theorem x114_52 : Rn S 114 52 [v0, v1, v2] st I J Q = Rn S 114 54 [v0, v1, v2] (.int (-4) :: st) I J Q := rS f114_52 rfl
theorem x114_54 : Rn S 114 54 [v0, v1, v2] [.int a] I J Q = Q (some (.int a)) I J := rR f114_54 rfl rfl rfl rfl rfl
theorem x114_55 : Rn S 114 55 [.ref q, v1, v2] st I J Q = Rn S 114 56 [.ref q, v1, v2] (.ref q :: st) I J Q := rL f114_55 rfl rfl
theorem x114_56_65 : Rn (zG xl) 114 56 [v0, v1, v2] (.ref 65 :: st) I J Q = Rn (zG xl) 114 59 [v0, v1, v2] (.ref 70 :: st) I J Q := (rGf f114_56 rfl).trans (tr_and rfl)
theorem x114_59 : Rn S 114 59 [v0, v1, v2] st I J Q = Rn S 114 61 [v0, v1, v2] (.int 48 :: st) I J Q := rS f114_59 rfl
theorem x114_61 : Rn S 114 61 [v0, .int a, v2] st I J Q = Rn S 114 62 [v0, .int a, v2] (.int a :: st) I J Q := rL f114_61 rfl rfl
theorem x114_62 : Rn S 114 62 [v0, v1, v2] (.int b :: .int a :: st) I J Q = Rn S 114 63 [v0, v1, v2] (.int (a * b) :: st) I J Q := rS f114_62 rfl
theorem x114_63 : Rn S 114 63 [.ref q, v1, v2] st I J Q = Rn S 114 64 [.ref q, v1, v2] (.ref q :: st) I J Q := rL f114_63 rfl rfl
theorem x114_64_65 : Rn (zG xl) 114 64 [v0, v1, v2] (.ref 65 :: st) I J Q = Rn (zG xl) 114 67 [v0, v1, v2] (.ref 71 :: st) I J Q := (rGf f114_64 rfl).trans (tr_and rfl)
theorem x114_67 : Rn S 114 67 [v0, .int a, v2] st I J Q = Rn S 114 68 [v0, .int a, v2] (.int a :: st) I J Q := rL f114_67 rfl rfl
theorem x114_68 : Rn S 114 68 [v0, v1, v2] (.int a :: .ref q :: st) I J Q = (zai S q a ∧ Rn S 114 69 [v0, v1, v2] (.int (I q a.toNatClampNeg) :: st) I J Q) := rIal f114_68
theorem x114_69 : Rn S 114 69 [v0, v1, v2] (.int b :: .int a :: st) I J Q = Rn S 114 70 [v0, v1, v2] (.int (a + b) :: st) I J Q := rS f114_69 rfl
theorem x114_70 : Rn S 114 70 [v0, v1, .int a] st I J Q = Rn S 114 71 [v0, v1, .int a] (.int a :: st) I J Q := rL f114_70 rfl rfl
theorem x114_71 : Rn S 114 71 [v0, v1, v2] (.int b :: .int a :: .ref q :: st) I J Q = (zas S q a ∧ Rn S 114 72 [v0, v1, v2] st (zr I q (upd (I q) a.toNatClampNeg b)) J Q) := rIas f114_71
theorem x114_72 : Rn S 114 72 [.ref q, v1, v2] st I J Q = Rn S 114 73 [.ref q, v1, v2] (.ref q :: st) I J Q := rL f114_72 rfl rfl
theorem x114_73_65 : Rn (zG xl) 114 73 [v0, v1, v2] (.ref 65 :: st) I J Q = Rn (zG xl) 114 76 [v0, v1, v2] (.ref 71 :: st) I J Q := (rGf f114_73 rfl).trans (tr_and rfl)
theorem x114_76 : Rn S 114 76 [v0, .int a, v2] st I J Q = Rn S 114 77 [v0, .int a, v2] (.int a :: st) I J Q := rL f114_76 rfl rfl
theorem x114_77 : Rn S 114 77 [v0, v1, v2] (.int a :: .ref q :: st) I J Q = Rn S 114 78 [v0, v1, v2] (.int a :: .ref q :: .int a :: .ref q :: st) I J Q := rS f114_77 rfl
theorem x114_78 : Rn S 114 78 [v0, v1, v2] (.int a :: .ref q :: st) I J Q = (zai S q a ∧ Rn S 114 79 [v0, v1, v2] (.int (I q a.toNatClampNeg) :: st) I J Q) := rIal f114_78
theorem x114_79 : Rn S 114 79 [v0, v1, v2] st I J Q = Rn S 114 80 [v0, v1, v2] (.int 1 :: st) I J Q := rS f114_79 rfl
theorem x114_80 : Rn S 114 80 [v0, v1, v2] (.int b :: .int a :: st) I J Q = Rn S 114 81 [v0, v1, v2] (.int (a + b) :: st) I J Q := rS f114_80 rfl
theorem x114_81 : Rn S 114 81 [v0, v1, v2] (.int b :: .int a :: .ref q :: st) I J Q = (zas S q a ∧ Rn S 114 82 [v0, v1, v2] st (zr I q (upd (I q) a.toNatClampNeg b)) J Q) := rIas f114_81
theorem x114_82 : Rn S 114 82 [.ref q, v1, v2] st I J Q = Rn S 114 83 [.ref q, v1, v2] (.ref q :: st) I J Q := rL f114_82 rfl rfl
theorem x114_83_65 : Rn (zG xl) 114 83 [v0, v1, v2] (.ref 65 :: st) I J Q = Rn (zG xl) 114 86 [v0, v1, v2] (.ref 71 :: st) I J Q := (rGf f114_83 rfl).trans (tr_and rfl)
theorem x114_86 : Rn S 114 86 [v0, .int a, v2] st I J Q = Rn S 114 87 [v0, .int a, v2] (.int a :: st) I J Q := rL f114_86 rfl rfl
theorem x114_87 : Rn S 114 87 [v0, v1, v2] (.int a :: .ref q :: st) I J Q = (zai S q a ∧ Rn S 114 88 [v0, v1, v2] (.int (I q a.toNatClampNeg) :: st) I J Q) := rIal f114_87
theorem x114_88 : Rn S 114 88 [v0, v1, v2] [.int a] I J Q = Q (some (.int a)) I J := rR f114_88 rfl rfl rfl rfl rfl
/-! X6.wipe: 115 -/
theorem B115 : zB 115 = cX6_wipe := rfl
theorem f115_0 : zft 115 0 = some (.iload_n 1, 1) := fet B115 (by decide +kernel) (Or.inr rfl)
theorem f115_1 : zft 115 1 = some (.invokestatic 114, 3) := fet B115 (by decide +kernel) (Or.inr rfl)
theorem f115_4 : zft 115 4 = some (.ifCond .ne 6, 3) := fet B115 (by decide +kernel) (Or.inr rfl)
theorem f115_7 : zft 115 7 = some (.bipush (-2), 2) := fet B115 (by decide +kernel) (Or.inr rfl)
theorem f115_9 : zft 115 9 = some (.ireturn, 1) := fet B115 (by decide +kernel) (Or.inr rfl)
theorem f115_10 : zft 115 10 = some (.aload_n 0, 1) := fet B115 (by decide +kernel) (Or.inr rfl)
theorem f115_11 : zft 115 11 = some (.getfield 25, 3) := fet B115 (by decide +kernel) (Or.inr rfl)
theorem f115_14 : zft 115 14 = some (.iload_n 1, 1) := fet B115 (by decide +kernel) (Or.inr rfl)
theorem f115_15 : zft 115 15 = some (.iaload, 1) := fet B115 (by decide +kernel) (Or.inr rfl)
theorem f115_16 : zft 115 16 = some (.istore_n 2, 1) := fet B115 (by decide +kernel) (Or.inr rfl)
theorem f115_17 : zft 115 17 = some (.aload_n 0, 1) := fet B115 (by decide +kernel) (Or.inr rfl)
theorem f115_18 : zft 115 18 = some (.getfield 25, 3) := fet B115 (by decide +kernel) (Or.inr rfl)
theorem f115_21 : zft 115 21 = some (.iload_n 1, 1) := fet B115 (by decide +kernel) (Or.inr rfl)
theorem f115_22 : zft 115 22 = some (.iconst 0, 1) := fet B115 (by decide +kernel) (Or.inr rfl)
theorem f115_23 : zft 115 23 = some (.iastore, 1) := fet B115 (by decide +kernel) (Or.inr rfl)
theorem f115_24 : zft 115 24 = some (.iload_n 2, 1) := fet B115 (by decide +kernel) (Or.inr rfl)
theorem f115_25 : zft 115 25 = some (.ireturn, 1) := fet B115 (by decide +kernel) (Or.inr rfl)
theorem x115_0 : Rn S 115 0 [v0, .int a, v2] st I J Q = Rn S 115 1 [v0, .int a, v2] (.int a :: st) I J Q := rL f115_0 rfl rfl
theorem x115_1 : Rn S 115 1 [v0, v1, v2] (.int a0 :: st) I J Q = (zcs st ≤ 8 ∧ Rn S 113 0 [.int a0] [] I J (fun v I' J' => Rn S 115 4 [v0, v1, v2] (v.toList ++ st) I' J' Q)) := rCS (As := [.int a0]) f115_1 rfl rfl rfl rfl (Nat.le_of_ble_eq_true rfl)
theorem x115_4 : Rn S 115 4 [v0, v1, v2] (.int a :: st) I J Q = if a = 0 then Rn S 115 7 [v0, v1, v2] st I J Q else Rn S 115 10 [v0, v1, v2] st I J Q := rIne f115_4 rfl rfl
theorem x115_7 : Rn S 115 7 [v0, v1, v2] st I J Q = Rn S 115 9 [v0, v1, v2] (.int (-2) :: st) I J Q := rS f115_7 rfl
theorem x115_9 : Rn S 115 9 [v0, v1, v2] [.int a] I J Q = Q (some (.int a)) I J := rR f115_9 rfl rfl rfl rfl rfl
theorem x115_10 : Rn S 115 10 [.ref q, v1, v2] st I J Q = Rn S 115 11 [.ref q, v1, v2] (.ref q :: st) I J Q := rL f115_10 rfl rfl
theorem x115_11_65 : Rn (zG xl) 115 11 [v0, v1, v2] (.ref 65 :: st) I J Q = Rn (zG xl) 115 14 [v0, v1, v2] (.ref 71 :: st) I J Q := (rGf f115_11 rfl).trans (tr_and rfl)
theorem x115_14 : Rn S 115 14 [v0, .int a, v2] st I J Q = Rn S 115 15 [v0, .int a, v2] (.int a :: st) I J Q := rL f115_14 rfl rfl
theorem x115_15 : Rn S 115 15 [v0, v1, v2] (.int a :: .ref q :: st) I J Q = (zai S q a ∧ Rn S 115 16 [v0, v1, v2] (.int (I q a.toNatClampNeg) :: st) I J Q) := rIal f115_15
theorem x115_16 : Rn S 115 16 [v0, v1, v2] (.int a :: st) I J Q = Rn S 115 17 [v0, zkl v1, .int a] st I J Q := rL f115_16 rfl rfl
theorem x115_17 : Rn S 115 17 [.ref q, v1, v2] st I J Q = Rn S 115 18 [.ref q, v1, v2] (.ref q :: st) I J Q := rL f115_17 rfl rfl
theorem x115_18_65 : Rn (zG xl) 115 18 [v0, v1, v2] (.ref 65 :: st) I J Q = Rn (zG xl) 115 21 [v0, v1, v2] (.ref 71 :: st) I J Q := (rGf f115_18 rfl).trans (tr_and rfl)
theorem x115_21 : Rn S 115 21 [v0, .int a, v2] st I J Q = Rn S 115 22 [v0, .int a, v2] (.int a :: st) I J Q := rL f115_21 rfl rfl
theorem x115_22 : Rn S 115 22 [v0, v1, v2] st I J Q = Rn S 115 23 [v0, v1, v2] (.int 0 :: st) I J Q := rS f115_22 rfl
theorem x115_23 : Rn S 115 23 [v0, v1, v2] (.int b :: .int a :: .ref q :: st) I J Q = (zas S q a ∧ Rn S 115 24 [v0, v1, v2] st (zr I q (upd (I q) a.toNatClampNeg b)) J Q) := rIas f115_23
theorem x115_24 : Rn S 115 24 [v0, v1, .int a] st I J Q = Rn S 115 25 [v0, v1, .int a] (.int a :: st) I J Q := rL f115_24 rfl rfl
theorem x115_25 : Rn S 115 25 [v0, v1, v2] [.int a] I J Q = Q (some (.int a)) I J := rR f115_25 rfl rfl rfl rfl rfl
/-! X6.undo: 116 -/
theorem B116 : zB 116 = cX6_undo := rfl
theorem f116_0 : zft 116 0 = some (.iload_n 1, 1) := fet B116 (by decide +kernel) (Or.inr rfl)
theorem f116_1 : zft 116 1 = some (.invokestatic 114, 3) := fet B116 (by decide +kernel) (Or.inr rfl)
theorem f116_4 : zft 116 4 = some (.ifCond .ne 6, 3) := fet B116 (by decide +kernel) (Or.inr rfl)
theorem f116_7 : zft 116 7 = some (.bipush (-2), 2) := fet B116 (by decide +kernel) (Or.inr rfl)
theorem f116_9 : zft 116 9 = some (.ireturn, 1) := fet B116 (by decide +kernel) (Or.inr rfl)
theorem f116_10 : zft 116 10 = some (.aload_n 0, 1) := fet B116 (by decide +kernel) (Or.inr rfl)
theorem f116_11 : zft 116 11 = some (.getfield 25, 3) := fet B116 (by decide +kernel) (Or.inr rfl)
theorem f116_14 : zft 116 14 = some (.iload_n 1, 1) := fet B116 (by decide +kernel) (Or.inr rfl)
theorem f116_15 : zft 116 15 = some (.iaload, 1) := fet B116 (by decide +kernel) (Or.inr rfl)
theorem f116_16 : zft 116 16 = some (.ifCond .ne 6, 3) := fet B116 (by decide +kernel) (Or.inr rfl)
theorem f116_19 : zft 116 19 = some (.bipush (-3), 2) := fet B116 (by decide +kernel) (Or.inr rfl)
theorem f116_21 : zft 116 21 = some (.ireturn, 1) := fet B116 (by decide +kernel) (Or.inr rfl)
theorem f116_22 : zft 116 22 = some (.aload_n 0, 1) := fet B116 (by decide +kernel) (Or.inr rfl)
theorem f116_23 : zft 116 23 = some (.getfield 25, 3) := fet B116 (by decide +kernel) (Or.inr rfl)
theorem f116_26 : zft 116 26 = some (.iload_n 1, 1) := fet B116 (by decide +kernel) (Or.inr rfl)
theorem f116_27 : zft 116 27 = some (.dup2, 1) := fet B116 (by decide +kernel) (Or.inr rfl)
theorem f116_28 : zft 116 28 = some (.iaload, 1) := fet B116 (by decide +kernel) (Or.inr rfl)
theorem f116_29 : zft 116 29 = some (.iconst 1, 1) := fet B116 (by decide +kernel) (Or.inr rfl)
theorem f116_30 : zft 116 30 = some (.isub, 1) := fet B116 (by decide +kernel) (Or.inr rfl)
theorem f116_31 : zft 116 31 = some (.iastore, 1) := fet B116 (by decide +kernel) (Or.inr rfl)
theorem f116_32 : zft 116 32 = some (.aload_n 0, 1) := fet B116 (by decide +kernel) (Or.inr rfl)
theorem f116_33 : zft 116 33 = some (.getfield 25, 3) := fet B116 (by decide +kernel) (Or.inr rfl)
theorem f116_36 : zft 116 36 = some (.iload_n 1, 1) := fet B116 (by decide +kernel) (Or.inr rfl)
theorem f116_37 : zft 116 37 = some (.iaload, 1) := fet B116 (by decide +kernel) (Or.inr rfl)
theorem f116_38 : zft 116 38 = some (.ireturn, 1) := fet B116 (by decide +kernel) (Or.inr rfl)
theorem x116_0 : Rn S 116 0 [v0, .int a] st I J Q = Rn S 116 1 [v0, .int a] (.int a :: st) I J Q := rL f116_0 rfl rfl
theorem x116_1 : Rn S 116 1 [v0, v1] (.int a0 :: st) I J Q = (zcs st ≤ 8 ∧ Rn S 113 0 [.int a0] [] I J (fun v I' J' => Rn S 116 4 [v0, v1] (v.toList ++ st) I' J' Q)) := rCS (As := [.int a0]) f116_1 rfl rfl rfl rfl (Nat.le_of_ble_eq_true rfl)
theorem x116_4 : Rn S 116 4 [v0, v1] (.int a :: st) I J Q = if a = 0 then Rn S 116 7 [v0, v1] st I J Q else Rn S 116 10 [v0, v1] st I J Q := rIne f116_4 rfl rfl
theorem x116_7 : Rn S 116 7 [v0, v1] st I J Q = Rn S 116 9 [v0, v1] (.int (-2) :: st) I J Q := rS f116_7 rfl
theorem x116_9 : Rn S 116 9 [v0, v1] [.int a] I J Q = Q (some (.int a)) I J := rR f116_9 rfl rfl rfl rfl rfl
theorem x116_10 : Rn S 116 10 [.ref q, v1] st I J Q = Rn S 116 11 [.ref q, v1] (.ref q :: st) I J Q := rL f116_10 rfl rfl
theorem x116_11_65 : Rn (zG xl) 116 11 [v0, v1] (.ref 65 :: st) I J Q = Rn (zG xl) 116 14 [v0, v1] (.ref 71 :: st) I J Q := (rGf f116_11 rfl).trans (tr_and rfl)
theorem x116_14 : Rn S 116 14 [v0, .int a] st I J Q = Rn S 116 15 [v0, .int a] (.int a :: st) I J Q := rL f116_14 rfl rfl
theorem x116_15 : Rn S 116 15 [v0, v1] (.int a :: .ref q :: st) I J Q = (zai S q a ∧ Rn S 116 16 [v0, v1] (.int (I q a.toNatClampNeg) :: st) I J Q) := rIal f116_15
theorem x116_16 : Rn S 116 16 [v0, v1] (.int a :: st) I J Q = if a = 0 then Rn S 116 19 [v0, v1] st I J Q else Rn S 116 22 [v0, v1] st I J Q := rIne f116_16 rfl rfl
theorem x116_19 : Rn S 116 19 [v0, v1] st I J Q = Rn S 116 21 [v0, v1] (.int (-3) :: st) I J Q := rS f116_19 rfl
theorem x116_21 : Rn S 116 21 [v0, v1] [.int a] I J Q = Q (some (.int a)) I J := rR f116_21 rfl rfl rfl rfl rfl
theorem x116_22 : Rn S 116 22 [.ref q, v1] st I J Q = Rn S 116 23 [.ref q, v1] (.ref q :: st) I J Q := rL f116_22 rfl rfl
theorem x116_23_65 : Rn (zG xl) 116 23 [v0, v1] (.ref 65 :: st) I J Q = Rn (zG xl) 116 26 [v0, v1] (.ref 71 :: st) I J Q := (rGf f116_23 rfl).trans (tr_and rfl)
theorem x116_26 : Rn S 116 26 [v0, .int a] st I J Q = Rn S 116 27 [v0, .int a] (.int a :: st) I J Q := rL f116_26 rfl rfl
theorem x116_27 : Rn S 116 27 [v0, v1] (.int a :: .ref q :: st) I J Q = Rn S 116 28 [v0, v1] (.int a :: .ref q :: .int a :: .ref q :: st) I J Q := rS f116_27 rfl
theorem x116_28 : Rn S 116 28 [v0, v1] (.int a :: .ref q :: st) I J Q = (zai S q a ∧ Rn S 116 29 [v0, v1] (.int (I q a.toNatClampNeg) :: st) I J Q) := rIal f116_28
theorem x116_29 : Rn S 116 29 [v0, v1] st I J Q = Rn S 116 30 [v0, v1] (.int 1 :: st) I J Q := rS f116_29 rfl
theorem x116_30 : Rn S 116 30 [v0, v1] (.int b :: .int a :: st) I J Q = Rn S 116 31 [v0, v1] (.int (a - b) :: st) I J Q := rS f116_30 rfl
theorem x116_31 : Rn S 116 31 [v0, v1] (.int b :: .int a :: .ref q :: st) I J Q = (zas S q a ∧ Rn S 116 32 [v0, v1] st (zr I q (upd (I q) a.toNatClampNeg b)) J Q) := rIas f116_31
theorem x116_32 : Rn S 116 32 [.ref q, v1] st I J Q = Rn S 116 33 [.ref q, v1] (.ref q :: st) I J Q := rL f116_32 rfl rfl
theorem x116_33_65 : Rn (zG xl) 116 33 [v0, v1] (.ref 65 :: st) I J Q = Rn (zG xl) 116 36 [v0, v1] (.ref 71 :: st) I J Q := (rGf f116_33 rfl).trans (tr_and rfl)
theorem x116_36 : Rn S 116 36 [v0, .int a] st I J Q = Rn S 116 37 [v0, .int a] (.int a :: st) I J Q := rL f116_36 rfl rfl
theorem x116_37 : Rn S 116 37 [v0, v1] (.int a :: .ref q :: st) I J Q = (zai S q a ∧ Rn S 116 38 [v0, v1] (.int (I q a.toNatClampNeg) :: st) I J Q) := rIal f116_37
theorem x116_38 : Rn S 116 38 [v0, v1] [.int a] I J Q = Q (some (.int a)) I J := rR f116_38 rfl rfl rfl rfl rfl
/-! X6.figureOf: 117 -/
theorem B117 : zB 117 = cX6_figureOf := rfl
theorem f117_0 : zft 117 0 = some (.iload_n 0, 1) := fet B117 (by decide +kernel) (Or.inr rfl)
theorem f117_1 : zft 117 1 = some (.i2l, 1) := fet B117 (by decide +kernel) (Or.inr rfl)
theorem f117_2 : zft 117 2 = some (.bipush 48, 2) := fet B117 (by decide +kernel) (Or.inr rfl)
theorem f117_4 : zft 117 4 = some (.iload_n 1, 1) := fet B117 (by decide +kernel) (Or.inr rfl)
theorem f117_5 : zft 117 5 = some (.iadd, 1) := fet B117 (by decide +kernel) (Or.inr rfl)
theorem f117_6 : zft 117 6 = some (.i2l, 1) := fet B117 (by decide +kernel) (Or.inr rfl)
theorem f117_7 : zft 117 7 = some (.bipush 48, 2) := fet B117 (by decide +kernel) (Or.inr rfl)
theorem f117_9 : zft 117 9 = some (.iload_n 2, 1) := fet B117 (by decide +kernel) (Or.inr rfl)
theorem f117_10 : zft 117 10 = some (.iadd, 1) := fet B117 (by decide +kernel) (Or.inr rfl)
theorem f117_11 : zft 117 11 = some (.i2l, 1) := fet B117 (by decide +kernel) (Or.inr rfl)
theorem f117_12 : zft 117 12 = some (.invokestatic 86, 3) := fet B117 (by decide +kernel) (Or.inr rfl)
theorem f117_15 : zft 117 15 = some (.ifCond .eq 10, 3) := fet B117 (by decide +kernel) (Or.inr rfl)
theorem f117_18 : zft 117 18 = some (.iload_n 0, 1) := fet B117 (by decide +kernel) (Or.inr rfl)
theorem f117_19 : zft 117 19 = some (.bipush 48, 2) := fet B117 (by decide +kernel) (Or.inr rfl)
theorem f117_21 : zft 117 21 = some (.isub, 1) := fet B117 (by decide +kernel) (Or.inr rfl)
theorem f117_22 : zft 117 22 = some (.goto 5, 3) := fet B117 (by decide +kernel) (Or.inr rfl)
theorem f117_25 : zft 117 25 = some (.bipush (-9), 2) := fet B117 (by decide +kernel) (Or.inr rfl)
theorem f117_27 : zft 117 27 = some (.ireturn, 1) := fet B117 (by decide +kernel) (Or.inr rfl)
theorem x117_0 : Rn S 117 0 [.int a, v1, v2] st I J Q = Rn S 117 1 [.int a, v1, v2] (.int a :: st) I J Q := rL f117_0 rfl rfl
theorem x117_1 : Rn S 117 1 [v0, v1, v2] (.int a :: st) I J Q = Rn S 117 2 [v0, v1, v2] (.long a.toInt64 :: st) I J Q := rS f117_1 rfl
theorem x117_2 : Rn S 117 2 [v0, v1, v2] st I J Q = Rn S 117 4 [v0, v1, v2] (.int 48 :: st) I J Q := rS f117_2 rfl
theorem x117_4 : Rn S 117 4 [v0, .int a, v2] st I J Q = Rn S 117 5 [v0, .int a, v2] (.int a :: st) I J Q := rL f117_4 rfl rfl
theorem x117_5 : Rn S 117 5 [v0, v1, v2] (.int b :: .int a :: st) I J Q = Rn S 117 6 [v0, v1, v2] (.int (a + b) :: st) I J Q := rS f117_5 rfl
theorem x117_6 : Rn S 117 6 [v0, v1, v2] (.int a :: st) I J Q = Rn S 117 7 [v0, v1, v2] (.long a.toInt64 :: st) I J Q := rS f117_6 rfl
theorem x117_7 : Rn S 117 7 [v0, v1, v2] st I J Q = Rn S 117 9 [v0, v1, v2] (.int 48 :: st) I J Q := rS f117_7 rfl
theorem x117_9 : Rn S 117 9 [v0, v1, .int a] st I J Q = Rn S 117 10 [v0, v1, .int a] (.int a :: st) I J Q := rL f117_9 rfl rfl
theorem x117_10 : Rn S 117 10 [v0, v1, v2] (.int b :: .int a :: st) I J Q = Rn S 117 11 [v0, v1, v2] (.int (a + b) :: st) I J Q := rS f117_10 rfl
theorem x117_11 : Rn S 117 11 [v0, v1, v2] (.int a :: st) I J Q = Rn S 117 12 [v0, v1, v2] (.long a.toInt64 :: st) I J Q := rS f117_11 rfl
theorem x117_12 : Rn S 117 12 [v0, v1, v2] (.long u2 :: .long u1 :: .long u0 :: st) I J Q = (zcs st ≤ 8 ∧ Rn S 96 0 [.long u0, .null, .long u1, .null, .long u2, .null] [] I J (fun v I' J' => Rn S 117 15 [v0, v1, v2] (v.toList ++ st) I' J' Q)) := rCS (As := [.long u0, .long u1, .long u2]) f117_12 rfl rfl rfl rfl (Nat.le_of_ble_eq_true rfl)
theorem x117_15 : Rn S 117 15 [v0, v1, v2] (.int a :: st) I J Q = if a = 0 then Rn S 117 25 [v0, v1, v2] st I J Q else Rn S 117 18 [v0, v1, v2] st I J Q := rIeq f117_15 rfl rfl
theorem x117_18 : Rn S 117 18 [.int a, v1, v2] st I J Q = Rn S 117 19 [.int a, v1, v2] (.int a :: st) I J Q := rL f117_18 rfl rfl
theorem x117_19 : Rn S 117 19 [v0, v1, v2] st I J Q = Rn S 117 21 [v0, v1, v2] (.int 48 :: st) I J Q := rS f117_19 rfl
theorem x117_21 : Rn S 117 21 [v0, v1, v2] (.int b :: .int a :: st) I J Q = Rn S 117 22 [v0, v1, v2] (.int (a - b) :: st) I J Q := rS f117_21 rfl
theorem x117_22 : Rn S 117 22 [v0, v1, v2] st I J Q = Rn S 117 27 [v0, v1, v2] st I J Q := rB f117_22 rfl rfl rfl
theorem x117_25 : Rn S 117 25 [v0, v1, v2] st I J Q = Rn S 117 27 [v0, v1, v2] (.int (-9) :: st) I J Q := rS f117_25 rfl
theorem x117_27 : Rn S 117 27 [v0, v1, v2] [.int a] I J Q = Q (some (.int a)) I J := rR f117_27 rfl rfl rfl rfl rfl
/-! X6.lineOf: 118 -/
theorem B118 : zB 118 = cX6_lineOf := rfl
theorem f118_0 : zft 118 0 = some (.iload_n 0, 1) := fet B118 (by decide +kernel) (Or.inr rfl)
theorem f118_1 : zft 118 1 = some (.ifCond .ne 36, 3) := fet B118 (by decide +kernel) (Or.inr rfl)
theorem f118_4 : zft 118 4 = some (.iload_n 1, 1) := fet B118 (by decide +kernel) (Or.inr rfl)
theorem f118_5 : zft 118 5 = some (.bipush 108, 2) := fet B118 (by decide +kernel) (Or.inr rfl)
theorem f118_7 : zft 118 7 = some (.if_icmp .ne 7, 3) := fet B118 (by decide +kernel) (Or.inr rfl)
theorem f118_10 : zft 118 10 = some (.iconst 0, 1) := fet B118 (by decide +kernel) (Or.inr rfl)
theorem f118_11 : zft 118 11 = some (.goto 25, 3) := fet B118 (by decide +kernel) (Or.inr rfl)
theorem f118_14 : zft 118 14 = some (.iload_n 1, 1) := fet B118 (by decide +kernel) (Or.inr rfl)
theorem f118_15 : zft 118 15 = some (.bipush 100, 2) := fet B118 (by decide +kernel) (Or.inr rfl)
theorem f118_17 : zft 118 17 = some (.if_icmp .ne 7, 3) := fet B118 (by decide +kernel) (Or.inr rfl)
theorem f118_20 : zft 118 20 = some (.iconst 1, 1) := fet B118 (by decide +kernel) (Or.inr rfl)
theorem f118_21 : zft 118 21 = some (.goto 15, 3) := fet B118 (by decide +kernel) (Or.inr rfl)
theorem f118_24 : zft 118 24 = some (.iload_n 1, 1) := fet B118 (by decide +kernel) (Or.inr rfl)
theorem f118_25 : zft 118 25 = some (.bipush 116, 2) := fet B118 (by decide +kernel) (Or.inr rfl)
theorem f118_27 : zft 118 27 = some (.if_icmp .ne 7, 3) := fet B118 (by decide +kernel) (Or.inr rfl)
theorem f118_30 : zft 118 30 = some (.iconst 2, 1) := fet B118 (by decide +kernel) (Or.inr rfl)
theorem f118_31 : zft 118 31 = some (.goto 5, 3) := fet B118 (by decide +kernel) (Or.inr rfl)
theorem f118_34 : zft 118 34 = some (.bipush (-9), 2) := fet B118 (by decide +kernel) (Or.inr rfl)
theorem f118_36 : zft 118 36 = some (.ireturn, 1) := fet B118 (by decide +kernel) (Or.inr rfl)
theorem f118_37 : zft 118 37 = some (.iload_n 0, 1) := fet B118 (by decide +kernel) (Or.inr rfl)
theorem f118_38 : zft 118 38 = some (.iconst 1, 1) := fet B118 (by decide +kernel) (Or.inr rfl)
theorem f118_39 : zft 118 39 = some (.if_icmp .ne 13, 3) := fet B118 (by decide +kernel) (Or.inr rfl)
theorem f118_42 : zft 118 42 = some (.iload_n 1, 1) := fet B118 (by decide +kernel) (Or.inr rfl)
theorem f118_43 : zft 118 43 = some (.iconst 1, 1) := fet B118 (by decide +kernel) (Or.inr rfl)
theorem f118_44 : zft 118 44 = some (.bipush 9, 2) := fet B118 (by decide +kernel) (Or.inr rfl)
theorem f118_46 : zft 118 46 = some (.invokestatic 119, 3) := fet B118 (by decide +kernel) (Or.inr rfl)
theorem f118_49 : zft 118 49 = some (.goto 15, 3) := fet B118 (by decide +kernel) (Or.inr rfl)
theorem f118_52 : zft 118 52 = some (.iload_n 1, 1) := fet B118 (by decide +kernel) (Or.inr rfl)
theorem f118_53 : zft 118 53 = some (.bipush 59, 2) := fet B118 (by decide +kernel) (Or.inr rfl)
theorem f118_55 : zft 118 55 = some (.if_icmp .ne 7, 3) := fet B118 (by decide +kernel) (Or.inr rfl)
theorem f118_58 : zft 118 58 = some (.iconst 0, 1) := fet B118 (by decide +kernel) (Or.inr rfl)
theorem f118_59 : zft 118 59 = some (.goto 5, 3) := fet B118 (by decide +kernel) (Or.inr rfl)
theorem f118_62 : zft 118 62 = some (.bipush (-9), 2) := fet B118 (by decide +kernel) (Or.inr rfl)
theorem f118_64 : zft 118 64 = some (.ireturn, 1) := fet B118 (by decide +kernel) (Or.inr rfl)
theorem x118_0 : Rn S 118 0 [.int a, v1] st I J Q = Rn S 118 1 [.int a, v1] (.int a :: st) I J Q := rL f118_0 rfl rfl
theorem x118_1 : Rn S 118 1 [v0, v1] (.int a :: st) I J Q = if a = 0 then Rn S 118 4 [v0, v1] st I J Q else Rn S 118 37 [v0, v1] st I J Q := rIne f118_1 rfl rfl
theorem x118_4 : Rn S 118 4 [v0, .int a] st I J Q = Rn S 118 5 [v0, .int a] (.int a :: st) I J Q := rL f118_4 rfl rfl
theorem x118_5 : Rn S 118 5 [v0, v1] st I J Q = Rn S 118 7 [v0, v1] (.int 108 :: st) I J Q := rS f118_5 rfl
theorem x118_7 : Rn S 118 7 [v0, v1] (.int b :: .int a :: st) I J Q = if a = b then Rn S 118 10 [v0, v1] st I J Q else Rn S 118 14 [v0, v1] st I J Q := rCne f118_7 rfl rfl
theorem x118_10 : Rn S 118 10 [v0, v1] st I J Q = Rn S 118 11 [v0, v1] (.int 0 :: st) I J Q := rS f118_10 rfl
theorem x118_11 : Rn S 118 11 [v0, v1] st I J Q = Rn S 118 36 [v0, v1] st I J Q := rB f118_11 rfl rfl rfl
theorem x118_14 : Rn S 118 14 [v0, .int a] st I J Q = Rn S 118 15 [v0, .int a] (.int a :: st) I J Q := rL f118_14 rfl rfl
theorem x118_15 : Rn S 118 15 [v0, v1] st I J Q = Rn S 118 17 [v0, v1] (.int 100 :: st) I J Q := rS f118_15 rfl
theorem x118_17 : Rn S 118 17 [v0, v1] (.int b :: .int a :: st) I J Q = if a = b then Rn S 118 20 [v0, v1] st I J Q else Rn S 118 24 [v0, v1] st I J Q := rCne f118_17 rfl rfl
theorem x118_20 : Rn S 118 20 [v0, v1] st I J Q = Rn S 118 21 [v0, v1] (.int 1 :: st) I J Q := rS f118_20 rfl
theorem x118_21 : Rn S 118 21 [v0, v1] st I J Q = Rn S 118 36 [v0, v1] st I J Q := rB f118_21 rfl rfl rfl
theorem x118_24 : Rn S 118 24 [v0, .int a] st I J Q = Rn S 118 25 [v0, .int a] (.int a :: st) I J Q := rL f118_24 rfl rfl
theorem x118_25 : Rn S 118 25 [v0, v1] st I J Q = Rn S 118 27 [v0, v1] (.int 116 :: st) I J Q := rS f118_25 rfl
theorem x118_27 : Rn S 118 27 [v0, v1] (.int b :: .int a :: st) I J Q = if a = b then Rn S 118 30 [v0, v1] st I J Q else Rn S 118 34 [v0, v1] st I J Q := rCne f118_27 rfl rfl
theorem x118_30 : Rn S 118 30 [v0, v1] st I J Q = Rn S 118 31 [v0, v1] (.int 2 :: st) I J Q := rS f118_30 rfl
theorem x118_31 : Rn S 118 31 [v0, v1] st I J Q = Rn S 118 36 [v0, v1] st I J Q := rB f118_31 rfl rfl rfl
theorem x118_34 : Rn S 118 34 [v0, v1] st I J Q = Rn S 118 36 [v0, v1] (.int (-9) :: st) I J Q := rS f118_34 rfl
theorem x118_36 : Rn S 118 36 [v0, v1] [.int a] I J Q = Q (some (.int a)) I J := rR f118_36 rfl rfl rfl rfl rfl
theorem x118_37 : Rn S 118 37 [.int a, v1] st I J Q = Rn S 118 38 [.int a, v1] (.int a :: st) I J Q := rL f118_37 rfl rfl
theorem x118_38 : Rn S 118 38 [v0, v1] st I J Q = Rn S 118 39 [v0, v1] (.int 1 :: st) I J Q := rS f118_38 rfl
theorem x118_39 : Rn S 118 39 [v0, v1] (.int b :: .int a :: st) I J Q = if a = b then Rn S 118 42 [v0, v1] st I J Q else Rn S 118 52 [v0, v1] st I J Q := rCne f118_39 rfl rfl
theorem x118_42 : Rn S 118 42 [v0, .int a] st I J Q = Rn S 118 43 [v0, .int a] (.int a :: st) I J Q := rL f118_42 rfl rfl
theorem x118_43 : Rn S 118 43 [v0, v1] st I J Q = Rn S 118 44 [v0, v1] (.int 1 :: st) I J Q := rS f118_43 rfl
theorem x118_44 : Rn S 118 44 [v0, v1] st I J Q = Rn S 118 46 [v0, v1] (.int 9 :: st) I J Q := rS f118_44 rfl
theorem x118_46 : Rn S 118 46 [v0, v1] (.int a2 :: .int a1 :: .int a0 :: st) I J Q = (zcs st ≤ 8 ∧ Rn S 117 0 [.int a0, .int a1, .int a2] [] I J (fun v I' J' => Rn S 118 49 [v0, v1] (v.toList ++ st) I' J' Q)) := rCS (As := [.int a0, .int a1, .int a2]) f118_46 rfl rfl rfl rfl (Nat.le_of_ble_eq_true rfl)
theorem x118_49 : Rn S 118 49 [v0, v1] st I J Q = Rn S 118 64 [v0, v1] st I J Q := rB f118_49 rfl rfl rfl
theorem x118_52 : Rn S 118 52 [v0, .int a] st I J Q = Rn S 118 53 [v0, .int a] (.int a :: st) I J Q := rL f118_52 rfl rfl
theorem x118_53 : Rn S 118 53 [v0, v1] st I J Q = Rn S 118 55 [v0, v1] (.int 59 :: st) I J Q := rS f118_53 rfl
theorem x118_55 : Rn S 118 55 [v0, v1] (.int b :: .int a :: st) I J Q = if a = b then Rn S 118 58 [v0, v1] st I J Q else Rn S 118 62 [v0, v1] st I J Q := rCne f118_55 rfl rfl
theorem x118_58 : Rn S 118 58 [v0, v1] st I J Q = Rn S 118 59 [v0, v1] (.int 0 :: st) I J Q := rS f118_58 rfl
theorem x118_59 : Rn S 118 59 [v0, v1] st I J Q = Rn S 118 64 [v0, v1] st I J Q := rB f118_59 rfl rfl rfl
theorem x118_62 : Rn S 118 62 [v0, v1] st I J Q = Rn S 118 64 [v0, v1] (.int (-9) :: st) I J Q := rS f118_62 rfl
theorem x118_64 : Rn S 118 64 [v0, v1] [.int a] I J Q = Q (some (.int a)) I J := rR f118_64 rfl rfl rfl rfl rfl
/-! X6.readsLines: 119 -/
theorem B119 : zB 119 = cX6_readsLines := rfl
theorem f119_0 : zft 119 0 = some (.aload_n 0, 1) := fet B119 (by decide +kernel) (Or.inr rfl)
theorem f119_1 : zft 119 1 = some (.iconst 0, 1) := fet B119 (by decide +kernel) (Or.inr rfl)
theorem f119_2 : zft 119 2 = some (.putfield 122, 3) := fet B119 (by decide +kernel) (Or.inr rfl)
theorem f119_5 : zft 119 5 = some (.aload_n 0, 1) := fet B119 (by decide +kernel) (Or.inr rfl)
theorem f119_6 : zft 119 6 = some (.getfield 25, 3) := fet B119 (by decide +kernel) (Or.inr rfl)
theorem f119_9 : zft 119 9 = some (.iconst 0, 1) := fet B119 (by decide +kernel) (Or.inr rfl)
theorem f119_10 : zft 119 10 = some (.iaload, 1) := fet B119 (by decide +kernel) (Or.inr rfl)
theorem f119_11 : zft 119 11 = some (.istore_n 1, 1) := fet B119 (by decide +kernel) (Or.inr rfl)
theorem f119_12 : zft 119 12 = some (.iconst 0, 1) := fet B119 (by decide +kernel) (Or.inr rfl)
theorem f119_13 : zft 119 13 = some (.istore_n 2, 1) := fet B119 (by decide +kernel) (Or.inr rfl)
theorem f119_14 : zft 119 14 = some (.iload_n 2, 1) := fet B119 (by decide +kernel) (Or.inr rfl)
theorem f119_15 : zft 119 15 = some (.iload_n 1, 1) := fet B119 (by decide +kernel) (Or.inr rfl)
theorem f119_16 : zft 119 16 = some (.if_icmp .ge 77, 3) := fet B119 (by decide +kernel) (Or.inr rfl)
theorem f119_19 : zft 119 19 = some (.iload_n 2, 1) := fet B119 (by decide +kernel) (Or.inr rfl)
theorem f119_20 : zft 119 20 = some (.iconst 3, 1) := fet B119 (by decide +kernel) (Or.inr rfl)
theorem f119_21 : zft 119 21 = some (.irem, 1) := fet B119 (by decide +kernel) (Or.inr rfl)
theorem f119_22 : zft 119 22 = some (.istore_n 3, 1) := fet B119 (by decide +kernel) (Or.inr rfl)
theorem f119_23 : zft 119 23 = some (.iload_n 3, 1) := fet B119 (by decide +kernel) (Or.inr rfl)
theorem f119_24 : zft 119 24 = some (.aload_n 0, 1) := fet B119 (by decide +kernel) (Or.inr rfl)
theorem f119_25 : zft 119 25 = some (.getfield 22, 3) := fet B119 (by decide +kernel) (Or.inr rfl)
theorem f119_28 : zft 119 28 = some (.iload_n 2, 1) := fet B119 (by decide +kernel) (Or.inr rfl)
theorem f119_29 : zft 119 29 = some (.iaload, 1) := fet B119 (by decide +kernel) (Or.inr rfl)
theorem f119_30 : zft 119 30 = some (.invokestatic 125, 3) := fet B119 (by decide +kernel) (Or.inr rfl)
theorem f119_33 : zft 119 33 = some (.istore 4, 2) := fet B119 (by decide +kernel) (Or.inr rfl)
theorem f119_35 : zft 119 35 = some (.iload 4, 2) := fet B119 (by decide +kernel) (Or.inr rfl)
theorem f119_37 : zft 119 37 = some (.bipush (-9), 2) := fet B119 (by decide +kernel) (Or.inr rfl)
theorem f119_39 : zft 119 39 = some (.if_icmp .ne 10, 3) := fet B119 (by decide +kernel) (Or.inr rfl)
theorem f119_42 : zft 119 42 = some (.aload_n 0, 1) := fet B119 (by decide +kernel) (Or.inr rfl)
theorem f119_43 : zft 119 43 = some (.iconst 0, 1) := fet B119 (by decide +kernel) (Or.inr rfl)
theorem f119_44 : zft 119 44 = some (.putfield 122, 3) := fet B119 (by decide +kernel) (Or.inr rfl)
theorem f119_47 : zft 119 47 = some (.iload_n 2, 1) := fet B119 (by decide +kernel) (Or.inr rfl)
theorem f119_48 : zft 119 48 = some (.ireturn, 1) := fet B119 (by decide +kernel) (Or.inr rfl)
theorem f119_49 : zft 119 49 = some (.iload_n 3, 1) := fet B119 (by decide +kernel) (Or.inr rfl)
theorem f119_50 : zft 119 50 = some (.iconst 2, 1) := fet B119 (by decide +kernel) (Or.inr rfl)
theorem f119_51 : zft 119 51 = some (.if_icmp .ge 17, 3) := fet B119 (by decide +kernel) (Or.inr rfl)
theorem f119_54 : zft 119 54 = some (.aload_n 0, 1) := fet B119 (by decide +kernel) (Or.inr rfl)
theorem f119_55 : zft 119 55 = some (.getfield 28, 3) := fet B119 (by decide +kernel) (Or.inr rfl)
theorem f119_58 : zft 119 58 = some (.iconst 2, 1) := fet B119 (by decide +kernel) (Or.inr rfl)
theorem f119_59 : zft 119 59 = some (.iload_n 2, 1) := fet B119 (by decide +kernel) (Or.inr rfl)
theorem f119_60 : zft 119 60 = some (.iconst 3, 1) := fet B119 (by decide +kernel) (Or.inr rfl)
theorem f119_61 : zft 119 61 = some (.idiv, 1) := fet B119 (by decide +kernel) (Or.inr rfl)
theorem f119_62 : zft 119 62 = some (.imul, 1) := fet B119 (by decide +kernel) (Or.inr rfl)
theorem f119_63 : zft 119 63 = some (.iload_n 3, 1) := fet B119 (by decide +kernel) (Or.inr rfl)
theorem f119_64 : zft 119 64 = some (.iadd, 1) := fet B119 (by decide +kernel) (Or.inr rfl)
theorem f119_65 : zft 119 65 = some (.iload 4, 2) := fet B119 (by decide +kernel) (Or.inr rfl)
theorem f119_67 : zft 119 67 = some (.iastore, 1) := fet B119 (by decide +kernel) (Or.inr rfl)
theorem f119_68 : zft 119 68 = some (.aload_n 0, 1) := fet B119 (by decide +kernel) (Or.inr rfl)
theorem f119_69 : zft 119 69 = some (.dup, 1) := fet B119 (by decide +kernel) (Or.inr rfl)
theorem f119_70 : zft 119 70 = some (.getfield 122, 3) := fet B119 (by decide +kernel) (Or.inr rfl)
theorem f119_73 : zft 119 73 = some (.iload_n 3, 1) := fet B119 (by decide +kernel) (Or.inr rfl)
theorem f119_74 : zft 119 74 = some (.iconst 1, 1) := fet B119 (by decide +kernel) (Or.inr rfl)
theorem f119_75 : zft 119 75 = some (.if_icmp .ne 7, 3) := fet B119 (by decide +kernel) (Or.inr rfl)
theorem f119_78 : zft 119 78 = some (.iconst 1, 1) := fet B119 (by decide +kernel) (Or.inr rfl)
theorem f119_79 : zft 119 79 = some (.goto 4, 3) := fet B119 (by decide +kernel) (Or.inr rfl)
theorem f119_82 : zft 119 82 = some (.iconst 0, 1) := fet B119 (by decide +kernel) (Or.inr rfl)
theorem f119_83 : zft 119 83 = some (.iadd, 1) := fet B119 (by decide +kernel) (Or.inr rfl)
theorem f119_84 : zft 119 84 = some (.putfield 122, 3) := fet B119 (by decide +kernel) (Or.inr rfl)
theorem f119_87 : zft 119 87 = some (.iinc 2 1, 3) := fet B119 (by decide +kernel) (Or.inr rfl)
theorem f119_90 : zft 119 90 = some (.goto (-76), 3) := fet B119 (by decide +kernel) (Or.inr rfl)
theorem f119_93 : zft 119 93 = some (.iload_n 1, 1) := fet B119 (by decide +kernel) (Or.inr rfl)
theorem f119_94 : zft 119 94 = some (.ifCond .le 17, 3) := fet B119 (by decide +kernel) (Or.inr rfl)
theorem f119_97 : zft 119 97 = some (.iload_n 1, 1) := fet B119 (by decide +kernel) (Or.inr rfl)
theorem f119_98 : zft 119 98 = some (.iconst 3, 1) := fet B119 (by decide +kernel) (Or.inr rfl)
theorem f119_99 : zft 119 99 = some (.irem, 1) := fet B119 (by decide +kernel) (Or.inr rfl)
theorem f119_100 : zft 119 100 = some (.iconst 2, 1) := fet B119 (by decide +kernel) (Or.inr rfl)
theorem f119_101 : zft 119 101 = some (.if_icmp .eq 10, 3) := fet B119 (by decide +kernel) (Or.inr rfl)
theorem f119_104 : zft 119 104 = some (.aload_n 0, 1) := fet B119 (by decide +kernel) (Or.inr rfl)
theorem f119_105 : zft 119 105 = some (.iconst 0, 1) := fet B119 (by decide +kernel) (Or.inr rfl)
theorem f119_106 : zft 119 106 = some (.putfield 122, 3) := fet B119 (by decide +kernel) (Or.inr rfl)
theorem f119_109 : zft 119 109 = some (.iload_n 1, 1) := fet B119 (by decide +kernel) (Or.inr rfl)
theorem f119_110 : zft 119 110 = some (.ireturn, 1) := fet B119 (by decide +kernel) (Or.inr rfl)
theorem f119_111 : zft 119 111 = some (.iconst (-1), 1) := fet B119 (by decide +kernel) (Or.inr rfl)
theorem f119_112 : zft 119 112 = some (.ireturn, 1) := fet B119 (by decide +kernel) (Or.inr rfl)
theorem x119_0 : Rn S 119 0 [.ref q, v1, v2, v3, v4] st I J Q = Rn S 119 1 [.ref q, v1, v2, v3, v4] (.ref q :: st) I J Q := rL f119_0 rfl rfl
theorem x119_1 : Rn S 119 1 [v0, v1, v2, v3, v4] st I J Q = Rn S 119 2 [v0, v1, v2, v3, v4] (.int 0 :: st) I J Q := rS f119_1 rfl
theorem x119_2_65 : Rn (zG xl) 119 2 [v0, v1, v2, v3, v4] (.int a :: .ref 65 :: st) I J Q = Rn (zG xl) 119 5 [v0, v1, v2, v3, v4] st (zr I 65 (upd (I 65) 7 a)) J Q := (rPf f119_2 rfl).trans (tr_pf rfl rfl rfl)
theorem x119_5 : Rn S 119 5 [.ref q, v1, v2, v3, v4] st I J Q = Rn S 119 6 [.ref q, v1, v2, v3, v4] (.ref q :: st) I J Q := rL f119_5 rfl rfl
theorem x119_6_65 : Rn (zG xl) 119 6 [v0, v1, v2, v3, v4] (.ref 65 :: st) I J Q = Rn (zG xl) 119 9 [v0, v1, v2, v3, v4] (.ref 71 :: st) I J Q := (rGf f119_6 rfl).trans (tr_and rfl)
theorem x119_9 : Rn S 119 9 [v0, v1, v2, v3, v4] st I J Q = Rn S 119 10 [v0, v1, v2, v3, v4] (.int 0 :: st) I J Q := rS f119_9 rfl
theorem x119_10 : Rn S 119 10 [v0, v1, v2, v3, v4] (.int a :: .ref q :: st) I J Q = (zai S q a ∧ Rn S 119 11 [v0, v1, v2, v3, v4] (.int (I q a.toNatClampNeg) :: st) I J Q) := rIal f119_10
theorem x119_11 : Rn S 119 11 [v0, v1, v2, v3, v4] (.int a :: st) I J Q = Rn S 119 12 [zkl v0, .int a, v2, v3, v4] st I J Q := rL f119_11 rfl rfl
theorem x119_12 : Rn S 119 12 [v0, v1, v2, v3, v4] st I J Q = Rn S 119 13 [v0, v1, v2, v3, v4] (.int 0 :: st) I J Q := rS f119_12 rfl
theorem x119_13 : Rn S 119 13 [v0, v1, v2, v3, v4] (.int a :: st) I J Q = Rn S 119 14 [v0, zkl v1, .int a, v3, v4] st I J Q := rL f119_13 rfl rfl
theorem h119_14 : Rn S 119 14 [v0, v1, .int a, v3, v4] st I J Q = Rn S 119 15 [v0, v1, .int a, v3, v4] (.int a :: st) I J Q := rL f119_14 rfl rfl
theorem x119_15 : Rn S 119 15 [v0, .int a, v2, v3, v4] st I J Q = Rn S 119 16 [v0, .int a, v2, v3, v4] (.int a :: st) I J Q := rL f119_15 rfl rfl
theorem x119_16 : Rn S 119 16 [v0, v1, v2, v3, v4] (.int b :: .int a :: st) I J Q = if a < b then Rn S 119 19 [v0, v1, v2, v3, v4] st I J Q else Rn S 119 93 [v0, v1, v2, v3, v4] st I J Q := rCge f119_16 rfl rfl
theorem x119_19 : Rn S 119 19 [v0, v1, .int a, v3, v4] st I J Q = Rn S 119 20 [v0, v1, .int a, v3, v4] (.int a :: st) I J Q := rL f119_19 rfl rfl
theorem x119_20 : Rn S 119 20 [v0, v1, v2, v3, v4] st I J Q = Rn S 119 21 [v0, v1, v2, v3, v4] (.int 3 :: st) I J Q := rS f119_20 rfl
theorem x119_21 : Rn S 119 21 [v0, v1, v2, v3, v4] (.int b :: .int a :: st) I J Q = (¬ b = 0 ∧ Rn S 119 22 [v0, v1, v2, v3, v4] (.int (a - a / b * b) :: st) I J Q) := rRi f119_21
theorem x119_22 : Rn S 119 22 [v0, v1, v2, v3, v4] (.int a :: st) I J Q = Rn S 119 23 [v0, v1, zkl v2, .int a, v4] st I J Q := rL f119_22 rfl rfl
theorem x119_23 : Rn S 119 23 [v0, v1, v2, .int a, v4] st I J Q = Rn S 119 24 [v0, v1, v2, .int a, v4] (.int a :: st) I J Q := rL f119_23 rfl rfl
theorem x119_24 : Rn S 119 24 [.ref q, v1, v2, v3, v4] st I J Q = Rn S 119 25 [.ref q, v1, v2, v3, v4] (.ref q :: st) I J Q := rL f119_24 rfl rfl
theorem x119_25_65 : Rn (zG xl) 119 25 [v0, v1, v2, v3, v4] (.ref 65 :: st) I J Q = Rn (zG xl) 119 28 [v0, v1, v2, v3, v4] (.ref 70 :: st) I J Q := (rGf f119_25 rfl).trans (tr_and rfl)
theorem x119_28 : Rn S 119 28 [v0, v1, .int a, v3, v4] st I J Q = Rn S 119 29 [v0, v1, .int a, v3, v4] (.int a :: st) I J Q := rL f119_28 rfl rfl
theorem x119_29 : Rn S 119 29 [v0, v1, v2, v3, v4] (.int a :: .ref q :: st) I J Q = (zai S q a ∧ Rn S 119 30 [v0, v1, v2, v3, v4] (.int (I q a.toNatClampNeg) :: st) I J Q) := rIal f119_29
theorem x119_30 : Rn S 119 30 [v0, v1, v2, v3, v4] (.int a1 :: .int a0 :: st) I J Q = (zcs st ≤ 8 ∧ Rn S 118 0 [.int a0, .int a1] [] I J (fun v I' J' => Rn S 119 33 [v0, v1, v2, v3, v4] (v.toList ++ st) I' J' Q)) := rCS (As := [.int a0, .int a1]) f119_30 rfl rfl rfl rfl (Nat.le_of_ble_eq_true rfl)
theorem x119_33 : Rn S 119 33 [v0, v1, v2, v3, v4] (.int a :: st) I J Q = Rn S 119 35 [v0, v1, v2, zkl v3, .int a] st I J Q := rL f119_33 rfl rfl
theorem x119_35 : Rn S 119 35 [v0, v1, v2, v3, .int a] st I J Q = Rn S 119 37 [v0, v1, v2, v3, .int a] (.int a :: st) I J Q := rL f119_35 rfl rfl
theorem x119_37 : Rn S 119 37 [v0, v1, v2, v3, v4] st I J Q = Rn S 119 39 [v0, v1, v2, v3, v4] (.int (-9) :: st) I J Q := rS f119_37 rfl
theorem x119_39 : Rn S 119 39 [v0, v1, v2, v3, v4] (.int b :: .int a :: st) I J Q = if a = b then Rn S 119 42 [v0, v1, v2, v3, v4] st I J Q else Rn S 119 49 [v0, v1, v2, v3, v4] st I J Q := rCne f119_39 rfl rfl
theorem x119_42 : Rn S 119 42 [.ref q, v1, v2, v3, v4] st I J Q = Rn S 119 43 [.ref q, v1, v2, v3, v4] (.ref q :: st) I J Q := rL f119_42 rfl rfl
theorem x119_43 : Rn S 119 43 [v0, v1, v2, v3, v4] st I J Q = Rn S 119 44 [v0, v1, v2, v3, v4] (.int 0 :: st) I J Q := rS f119_43 rfl
theorem x119_44_65 : Rn (zG xl) 119 44 [v0, v1, v2, v3, v4] (.int a :: .ref 65 :: st) I J Q = Rn (zG xl) 119 47 [v0, v1, v2, v3, v4] st (zr I 65 (upd (I 65) 7 a)) J Q := (rPf f119_44 rfl).trans (tr_pf rfl rfl rfl)
theorem x119_47 : Rn S 119 47 [v0, v1, .int a, v3, v4] st I J Q = Rn S 119 48 [v0, v1, .int a, v3, v4] (.int a :: st) I J Q := rL f119_47 rfl rfl
theorem x119_48 : Rn S 119 48 [v0, v1, v2, v3, v4] [.int a] I J Q = Q (some (.int a)) I J := rR f119_48 rfl rfl rfl rfl rfl
theorem x119_49 : Rn S 119 49 [v0, v1, v2, .int a, v4] st I J Q = Rn S 119 50 [v0, v1, v2, .int a, v4] (.int a :: st) I J Q := rL f119_49 rfl rfl
theorem x119_50 : Rn S 119 50 [v0, v1, v2, v3, v4] st I J Q = Rn S 119 51 [v0, v1, v2, v3, v4] (.int 2 :: st) I J Q := rS f119_50 rfl
theorem x119_51 : Rn S 119 51 [v0, v1, v2, v3, v4] (.int b :: .int a :: st) I J Q = if a < b then Rn S 119 54 [v0, v1, v2, v3, v4] st I J Q else Rn S 119 68 [v0, v1, v2, v3, v4] st I J Q := rCge f119_51 rfl rfl
theorem x119_54 : Rn S 119 54 [.ref q, v1, v2, v3, v4] st I J Q = Rn S 119 55 [.ref q, v1, v2, v3, v4] (.ref q :: st) I J Q := rL f119_54 rfl rfl
theorem x119_55_65 : Rn (zG xl) 119 55 [v0, v1, v2, v3, v4] (.ref 65 :: st) I J Q = Rn (zG xl) 119 58 [v0, v1, v2, v3, v4] (.ref 72 :: st) I J Q := (rGf f119_55 rfl).trans (tr_and rfl)
theorem x119_58 : Rn S 119 58 [v0, v1, v2, v3, v4] st I J Q = Rn S 119 59 [v0, v1, v2, v3, v4] (.int 2 :: st) I J Q := rS f119_58 rfl
theorem x119_59 : Rn S 119 59 [v0, v1, .int a, v3, v4] st I J Q = Rn S 119 60 [v0, v1, .int a, v3, v4] (.int a :: st) I J Q := rL f119_59 rfl rfl
theorem x119_60 : Rn S 119 60 [v0, v1, v2, v3, v4] st I J Q = Rn S 119 61 [v0, v1, v2, v3, v4] (.int 3 :: st) I J Q := rS f119_60 rfl
theorem x119_61 : Rn S 119 61 [v0, v1, v2, v3, v4] (.int b :: .int a :: st) I J Q = (¬ b = 0 ∧ Rn S 119 62 [v0, v1, v2, v3, v4] (.int (a / b) :: st) I J Q) := rDi f119_61
theorem x119_62 : Rn S 119 62 [v0, v1, v2, v3, v4] (.int b :: .int a :: st) I J Q = Rn S 119 63 [v0, v1, v2, v3, v4] (.int (a * b) :: st) I J Q := rS f119_62 rfl
theorem x119_63 : Rn S 119 63 [v0, v1, v2, .int a, v4] st I J Q = Rn S 119 64 [v0, v1, v2, .int a, v4] (.int a :: st) I J Q := rL f119_63 rfl rfl
theorem x119_64 : Rn S 119 64 [v0, v1, v2, v3, v4] (.int b :: .int a :: st) I J Q = Rn S 119 65 [v0, v1, v2, v3, v4] (.int (a + b) :: st) I J Q := rS f119_64 rfl
theorem x119_65 : Rn S 119 65 [v0, v1, v2, v3, .int a] st I J Q = Rn S 119 67 [v0, v1, v2, v3, .int a] (.int a :: st) I J Q := rL f119_65 rfl rfl
theorem x119_67 : Rn S 119 67 [v0, v1, v2, v3, v4] (.int b :: .int a :: .ref q :: st) I J Q = (zas S q a ∧ Rn S 119 68 [v0, v1, v2, v3, v4] st (zr I q (upd (I q) a.toNatClampNeg b)) J Q) := rIas f119_67
theorem x119_68 : Rn S 119 68 [.ref q, v1, v2, v3, v4] st I J Q = Rn S 119 69 [.ref q, v1, v2, v3, v4] (.ref q :: st) I J Q := rL f119_68 rfl rfl
theorem x119_69i : Rn S 119 69 [v0, v1, v2, v3, v4] (.int a :: st) I J Q = Rn S 119 70 [v0, v1, v2, v3, v4] (.int a :: .int a :: st) I J Q := rS f119_69 rfl
theorem x119_69r : Rn S 119 69 [v0, v1, v2, v3, v4] (.ref q :: st) I J Q = Rn S 119 70 [v0, v1, v2, v3, v4] (.ref q :: .ref q :: st) I J Q := rS f119_69 rfl
theorem x119_70_65 : Rn (zG xl) 119 70 [v0, v1, v2, v3, v4] (.ref 65 :: st) I J Q = Rn (zG xl) 119 73 [v0, v1, v2, v3, v4] (.int (I 65 7) :: st) I J Q := (rGf f119_70 rfl).trans (tr_and rfl)
theorem x119_73 : Rn S 119 73 [v0, v1, v2, .int a, v4] st I J Q = Rn S 119 74 [v0, v1, v2, .int a, v4] (.int a :: st) I J Q := rL f119_73 rfl rfl
theorem x119_74 : Rn S 119 74 [v0, v1, v2, v3, v4] st I J Q = Rn S 119 75 [v0, v1, v2, v3, v4] (.int 1 :: st) I J Q := rS f119_74 rfl
theorem x119_75 : Rn S 119 75 [v0, v1, v2, v3, v4] (.int b :: .int a :: st) I J Q = if a = b then Rn S 119 78 [v0, v1, v2, v3, v4] st I J Q else Rn S 119 82 [v0, v1, v2, v3, v4] st I J Q := rCne f119_75 rfl rfl
theorem x119_78 : Rn S 119 78 [v0, v1, v2, v3, v4] st I J Q = Rn S 119 79 [v0, v1, v2, v3, v4] (.int 1 :: st) I J Q := rS f119_78 rfl
theorem x119_79 : Rn S 119 79 [v0, v1, v2, v3, v4] st I J Q = Rn S 119 83 [v0, v1, v2, v3, v4] st I J Q := rB f119_79 rfl rfl rfl
theorem x119_82 : Rn S 119 82 [v0, v1, v2, v3, v4] st I J Q = Rn S 119 83 [v0, v1, v2, v3, v4] (.int 0 :: st) I J Q := rS f119_82 rfl
theorem x119_83 : Rn S 119 83 [v0, v1, v2, v3, v4] (.int b :: .int a :: st) I J Q = Rn S 119 84 [v0, v1, v2, v3, v4] (.int (a + b) :: st) I J Q := rS f119_83 rfl
theorem x119_84_65 : Rn (zG xl) 119 84 [v0, v1, v2, v3, v4] (.int a :: .ref 65 :: st) I J Q = Rn (zG xl) 119 87 [v0, v1, v2, v3, v4] st (zr I 65 (upd (I 65) 7 a)) J Q := (rPf f119_84 rfl).trans (tr_pf rfl rfl rfl)
theorem x119_87 : Rn S 119 87 [v0, v1, .int a, v3, v4] st I J Q = Rn S 119 90 [v0, zkl v1, .int (a + 1), v3, v4] st I J Q := rL f119_87 rfl rfl
theorem x119_90 : Rn S 119 90 [v0, v1, v2, v3, v4] st I J Q = Rn S 119 14 [v0, v1, v2, v3, v4] st I J Q := rB f119_90 rfl rfl rfl
theorem x119_93 : Rn S 119 93 [v0, .int a, v2, v3, v4] st I J Q = Rn S 119 94 [v0, .int a, v2, v3, v4] (.int a :: st) I J Q := rL f119_93 rfl rfl
theorem x119_94 : Rn S 119 94 [v0, v1, v2, v3, v4] (.int a :: st) I J Q = if 0 < a then Rn S 119 97 [v0, v1, v2, v3, v4] st I J Q else Rn S 119 111 [v0, v1, v2, v3, v4] st I J Q := rIle f119_94 rfl rfl
theorem x119_97 : Rn S 119 97 [v0, .int a, v2, v3, v4] st I J Q = Rn S 119 98 [v0, .int a, v2, v3, v4] (.int a :: st) I J Q := rL f119_97 rfl rfl
theorem x119_98 : Rn S 119 98 [v0, v1, v2, v3, v4] st I J Q = Rn S 119 99 [v0, v1, v2, v3, v4] (.int 3 :: st) I J Q := rS f119_98 rfl
theorem x119_99 : Rn S 119 99 [v0, v1, v2, v3, v4] (.int b :: .int a :: st) I J Q = (¬ b = 0 ∧ Rn S 119 100 [v0, v1, v2, v3, v4] (.int (a - a / b * b) :: st) I J Q) := rRi f119_99
theorem x119_100 : Rn S 119 100 [v0, v1, v2, v3, v4] st I J Q = Rn S 119 101 [v0, v1, v2, v3, v4] (.int 2 :: st) I J Q := rS f119_100 rfl
theorem x119_101 : Rn S 119 101 [v0, v1, v2, v3, v4] (.int b :: .int a :: st) I J Q = if a = b then Rn S 119 111 [v0, v1, v2, v3, v4] st I J Q else Rn S 119 104 [v0, v1, v2, v3, v4] st I J Q := rCeq f119_101 rfl rfl
theorem x119_104 : Rn S 119 104 [.ref q, v1, v2, v3, v4] st I J Q = Rn S 119 105 [.ref q, v1, v2, v3, v4] (.ref q :: st) I J Q := rL f119_104 rfl rfl
theorem x119_105 : Rn S 119 105 [v0, v1, v2, v3, v4] st I J Q = Rn S 119 106 [v0, v1, v2, v3, v4] (.int 0 :: st) I J Q := rS f119_105 rfl
theorem x119_106_65 : Rn (zG xl) 119 106 [v0, v1, v2, v3, v4] (.int a :: .ref 65 :: st) I J Q = Rn (zG xl) 119 109 [v0, v1, v2, v3, v4] st (zr I 65 (upd (I 65) 7 a)) J Q := (rPf f119_106 rfl).trans (tr_pf rfl rfl rfl)
theorem x119_109 : Rn S 119 109 [v0, .int a, v2, v3, v4] st I J Q = Rn S 119 110 [v0, .int a, v2, v3, v4] (.int a :: st) I J Q := rL f119_109 rfl rfl
theorem x119_110 : Rn S 119 110 [v0, v1, v2, v3, v4] [.int a] I J Q = Q (some (.int a)) I J := rR f119_110 rfl rfl rfl rfl rfl
theorem x119_111 : Rn S 119 111 [v0, v1, v2, v3, v4] st I J Q = Rn S 119 112 [v0, v1, v2, v3, v4] (.int (-1) :: st) I J Q := rS f119_111 rfl
theorem x119_112 : Rn S 119 112 [v0, v1, v2, v3, v4] [.int a] I J Q = Q (some (.int a)) I J := rR f119_112 rfl rfl rfl rfl rfl
/-! X6.readerOf: 120 -/
theorem B120 : zB 120 = cX6_readerOf := rfl
theorem f120_0 : zft 120 0 = some (.iload_n 0, 1) := fet B120 (by decide +kernel) (Or.inr rfl)
theorem f120_1 : zft 120 1 = some (.ifCond .ne 36, 3) := fet B120 (by decide +kernel) (Or.inr rfl)
theorem f120_4 : zft 120 4 = some (.iload_n 1, 1) := fet B120 (by decide +kernel) (Or.inr rfl)
theorem f120_5 : zft 120 5 = some (.bipush 97, 2) := fet B120 (by decide +kernel) (Or.inr rfl)
theorem f120_7 : zft 120 7 = some (.if_icmp .ne 7, 3) := fet B120 (by decide +kernel) (Or.inr rfl)
theorem f120_10 : zft 120 10 = some (.iconst 0, 1) := fet B120 (by decide +kernel) (Or.inr rfl)
theorem f120_11 : zft 120 11 = some (.goto 25, 3) := fet B120 (by decide +kernel) (Or.inr rfl)
theorem f120_14 : zft 120 14 = some (.iload_n 1, 1) := fet B120 (by decide +kernel) (Or.inr rfl)
theorem f120_15 : zft 120 15 = some (.bipush 113, 2) := fet B120 (by decide +kernel) (Or.inr rfl)
theorem f120_17 : zft 120 17 = some (.if_icmp .ne 7, 3) := fet B120 (by decide +kernel) (Or.inr rfl)
theorem f120_20 : zft 120 20 = some (.iconst 1, 1) := fet B120 (by decide +kernel) (Or.inr rfl)
theorem f120_21 : zft 120 21 = some (.goto 15, 3) := fet B120 (by decide +kernel) (Or.inr rfl)
theorem f120_24 : zft 120 24 = some (.iload_n 1, 1) := fet B120 (by decide +kernel) (Or.inr rfl)
theorem f120_25 : zft 120 25 = some (.bipush 111, 2) := fet B120 (by decide +kernel) (Or.inr rfl)
theorem f120_27 : zft 120 27 = some (.if_icmp .ne 7, 3) := fet B120 (by decide +kernel) (Or.inr rfl)
theorem f120_30 : zft 120 30 = some (.iconst 2, 1) := fet B120 (by decide +kernel) (Or.inr rfl)
theorem f120_31 : zft 120 31 = some (.goto 5, 3) := fet B120 (by decide +kernel) (Or.inr rfl)
theorem f120_34 : zft 120 34 = some (.bipush (-9), 2) := fet B120 (by decide +kernel) (Or.inr rfl)
theorem f120_36 : zft 120 36 = some (.ireturn, 1) := fet B120 (by decide +kernel) (Or.inr rfl)
theorem f120_37 : zft 120 37 = some (.iload_n 0, 1) := fet B120 (by decide +kernel) (Or.inr rfl)
theorem f120_38 : zft 120 38 = some (.iconst 1, 1) := fet B120 (by decide +kernel) (Or.inr rfl)
theorem f120_39 : zft 120 39 = some (.if_icmp .ne 13, 3) := fet B120 (by decide +kernel) (Or.inr rfl)
theorem f120_42 : zft 120 42 = some (.iload_n 1, 1) := fet B120 (by decide +kernel) (Or.inr rfl)
theorem f120_43 : zft 120 43 = some (.iconst 1, 1) := fet B120 (by decide +kernel) (Or.inr rfl)
theorem f120_44 : zft 120 44 = some (.bipush 9, 2) := fet B120 (by decide +kernel) (Or.inr rfl)
theorem f120_46 : zft 120 46 = some (.invokestatic 119, 3) := fet B120 (by decide +kernel) (Or.inr rfl)
theorem f120_49 : zft 120 49 = some (.goto 15, 3) := fet B120 (by decide +kernel) (Or.inr rfl)
theorem f120_52 : zft 120 52 = some (.iload_n 1, 1) := fet B120 (by decide +kernel) (Or.inr rfl)
theorem f120_53 : zft 120 53 = some (.bipush 59, 2) := fet B120 (by decide +kernel) (Or.inr rfl)
theorem f120_55 : zft 120 55 = some (.if_icmp .ne 7, 3) := fet B120 (by decide +kernel) (Or.inr rfl)
theorem f120_58 : zft 120 58 = some (.iconst 0, 1) := fet B120 (by decide +kernel) (Or.inr rfl)
theorem f120_59 : zft 120 59 = some (.goto 5, 3) := fet B120 (by decide +kernel) (Or.inr rfl)
theorem f120_62 : zft 120 62 = some (.bipush (-9), 2) := fet B120 (by decide +kernel) (Or.inr rfl)
theorem f120_64 : zft 120 64 = some (.ireturn, 1) := fet B120 (by decide +kernel) (Or.inr rfl)
theorem x120_0 : Rn S 120 0 [.int a, v1] st I J Q = Rn S 120 1 [.int a, v1] (.int a :: st) I J Q := rL f120_0 rfl rfl
theorem x120_1 : Rn S 120 1 [v0, v1] (.int a :: st) I J Q = if a = 0 then Rn S 120 4 [v0, v1] st I J Q else Rn S 120 37 [v0, v1] st I J Q := rIne f120_1 rfl rfl
theorem x120_4 : Rn S 120 4 [v0, .int a] st I J Q = Rn S 120 5 [v0, .int a] (.int a :: st) I J Q := rL f120_4 rfl rfl
theorem x120_5 : Rn S 120 5 [v0, v1] st I J Q = Rn S 120 7 [v0, v1] (.int 97 :: st) I J Q := rS f120_5 rfl
theorem x120_7 : Rn S 120 7 [v0, v1] (.int b :: .int a :: st) I J Q = if a = b then Rn S 120 10 [v0, v1] st I J Q else Rn S 120 14 [v0, v1] st I J Q := rCne f120_7 rfl rfl
theorem x120_10 : Rn S 120 10 [v0, v1] st I J Q = Rn S 120 11 [v0, v1] (.int 0 :: st) I J Q := rS f120_10 rfl
theorem x120_11 : Rn S 120 11 [v0, v1] st I J Q = Rn S 120 36 [v0, v1] st I J Q := rB f120_11 rfl rfl rfl
theorem x120_14 : Rn S 120 14 [v0, .int a] st I J Q = Rn S 120 15 [v0, .int a] (.int a :: st) I J Q := rL f120_14 rfl rfl
theorem x120_15 : Rn S 120 15 [v0, v1] st I J Q = Rn S 120 17 [v0, v1] (.int 113 :: st) I J Q := rS f120_15 rfl
theorem x120_17 : Rn S 120 17 [v0, v1] (.int b :: .int a :: st) I J Q = if a = b then Rn S 120 20 [v0, v1] st I J Q else Rn S 120 24 [v0, v1] st I J Q := rCne f120_17 rfl rfl
theorem x120_20 : Rn S 120 20 [v0, v1] st I J Q = Rn S 120 21 [v0, v1] (.int 1 :: st) I J Q := rS f120_20 rfl
theorem x120_21 : Rn S 120 21 [v0, v1] st I J Q = Rn S 120 36 [v0, v1] st I J Q := rB f120_21 rfl rfl rfl
theorem x120_24 : Rn S 120 24 [v0, .int a] st I J Q = Rn S 120 25 [v0, .int a] (.int a :: st) I J Q := rL f120_24 rfl rfl
theorem x120_25 : Rn S 120 25 [v0, v1] st I J Q = Rn S 120 27 [v0, v1] (.int 111 :: st) I J Q := rS f120_25 rfl
theorem x120_27 : Rn S 120 27 [v0, v1] (.int b :: .int a :: st) I J Q = if a = b then Rn S 120 30 [v0, v1] st I J Q else Rn S 120 34 [v0, v1] st I J Q := rCne f120_27 rfl rfl
theorem x120_30 : Rn S 120 30 [v0, v1] st I J Q = Rn S 120 31 [v0, v1] (.int 2 :: st) I J Q := rS f120_30 rfl
theorem x120_31 : Rn S 120 31 [v0, v1] st I J Q = Rn S 120 36 [v0, v1] st I J Q := rB f120_31 rfl rfl rfl
theorem x120_34 : Rn S 120 34 [v0, v1] st I J Q = Rn S 120 36 [v0, v1] (.int (-9) :: st) I J Q := rS f120_34 rfl
theorem x120_36 : Rn S 120 36 [v0, v1] [.int a] I J Q = Q (some (.int a)) I J := rR f120_36 rfl rfl rfl rfl rfl
theorem x120_37 : Rn S 120 37 [.int a, v1] st I J Q = Rn S 120 38 [.int a, v1] (.int a :: st) I J Q := rL f120_37 rfl rfl
theorem x120_38 : Rn S 120 38 [v0, v1] st I J Q = Rn S 120 39 [v0, v1] (.int 1 :: st) I J Q := rS f120_38 rfl
theorem x120_39 : Rn S 120 39 [v0, v1] (.int b :: .int a :: st) I J Q = if a = b then Rn S 120 42 [v0, v1] st I J Q else Rn S 120 52 [v0, v1] st I J Q := rCne f120_39 rfl rfl
theorem x120_42 : Rn S 120 42 [v0, .int a] st I J Q = Rn S 120 43 [v0, .int a] (.int a :: st) I J Q := rL f120_42 rfl rfl
theorem x120_43 : Rn S 120 43 [v0, v1] st I J Q = Rn S 120 44 [v0, v1] (.int 1 :: st) I J Q := rS f120_43 rfl
theorem x120_44 : Rn S 120 44 [v0, v1] st I J Q = Rn S 120 46 [v0, v1] (.int 9 :: st) I J Q := rS f120_44 rfl
theorem x120_46 : Rn S 120 46 [v0, v1] (.int a2 :: .int a1 :: .int a0 :: st) I J Q = (zcs st ≤ 8 ∧ Rn S 117 0 [.int a0, .int a1, .int a2] [] I J (fun v I' J' => Rn S 120 49 [v0, v1] (v.toList ++ st) I' J' Q)) := rCS (As := [.int a0, .int a1, .int a2]) f120_46 rfl rfl rfl rfl (Nat.le_of_ble_eq_true rfl)
theorem x120_49 : Rn S 120 49 [v0, v1] st I J Q = Rn S 120 64 [v0, v1] st I J Q := rB f120_49 rfl rfl rfl
theorem x120_52 : Rn S 120 52 [v0, .int a] st I J Q = Rn S 120 53 [v0, .int a] (.int a :: st) I J Q := rL f120_52 rfl rfl
theorem x120_53 : Rn S 120 53 [v0, v1] st I J Q = Rn S 120 55 [v0, v1] (.int 59 :: st) I J Q := rS f120_53 rfl
theorem x120_55 : Rn S 120 55 [v0, v1] (.int b :: .int a :: st) I J Q = if a = b then Rn S 120 58 [v0, v1] st I J Q else Rn S 120 62 [v0, v1] st I J Q := rCne f120_55 rfl rfl
theorem x120_58 : Rn S 120 58 [v0, v1] st I J Q = Rn S 120 59 [v0, v1] (.int 0 :: st) I J Q := rS f120_58 rfl
theorem x120_59 : Rn S 120 59 [v0, v1] st I J Q = Rn S 120 64 [v0, v1] st I J Q := rB f120_59 rfl rfl rfl
theorem x120_62 : Rn S 120 62 [v0, v1] st I J Q = Rn S 120 64 [v0, v1] (.int (-9) :: st) I J Q := rS f120_62 rfl
theorem x120_64 : Rn S 120 64 [v0, v1] [.int a] I J Q = Q (some (.int a)) I J := rR f120_64 rfl rfl rfl rfl rfl
/-! X6.readsReaders: 121 -/
theorem B121 : zB 121 = cX6_readsReaders := rfl
theorem f121_0 : zft 121 0 = some (.aload_n 0, 1) := fet B121 (by decide +kernel) (Or.inr rfl)
theorem f121_1 : zft 121 1 = some (.iconst 0, 1) := fet B121 (by decide +kernel) (Or.inr rfl)
theorem f121_2 : zft 121 2 = some (.putfield 128, 3) := fet B121 (by decide +kernel) (Or.inr rfl)
theorem f121_5 : zft 121 5 = some (.aload_n 0, 1) := fet B121 (by decide +kernel) (Or.inr rfl)
theorem f121_6 : zft 121 6 = some (.getfield 25, 3) := fet B121 (by decide +kernel) (Or.inr rfl)
theorem f121_9 : zft 121 9 = some (.iconst 1, 1) := fet B121 (by decide +kernel) (Or.inr rfl)
theorem f121_10 : zft 121 10 = some (.iaload, 1) := fet B121 (by decide +kernel) (Or.inr rfl)
theorem f121_11 : zft 121 11 = some (.istore_n 1, 1) := fet B121 (by decide +kernel) (Or.inr rfl)
theorem f121_12 : zft 121 12 = some (.iconst 0, 1) := fet B121 (by decide +kernel) (Or.inr rfl)
theorem f121_13 : zft 121 13 = some (.istore_n 2, 1) := fet B121 (by decide +kernel) (Or.inr rfl)
theorem f121_14 : zft 121 14 = some (.iload_n 2, 1) := fet B121 (by decide +kernel) (Or.inr rfl)
theorem f121_15 : zft 121 15 = some (.iload_n 1, 1) := fet B121 (by decide +kernel) (Or.inr rfl)
theorem f121_16 : zft 121 16 = some (.if_icmp .ge 80, 3) := fet B121 (by decide +kernel) (Or.inr rfl)
theorem f121_19 : zft 121 19 = some (.iload_n 2, 1) := fet B121 (by decide +kernel) (Or.inr rfl)
theorem f121_20 : zft 121 20 = some (.iconst 3, 1) := fet B121 (by decide +kernel) (Or.inr rfl)
theorem f121_21 : zft 121 21 = some (.irem, 1) := fet B121 (by decide +kernel) (Or.inr rfl)
theorem f121_22 : zft 121 22 = some (.istore_n 3, 1) := fet B121 (by decide +kernel) (Or.inr rfl)
theorem f121_23 : zft 121 23 = some (.iload_n 3, 1) := fet B121 (by decide +kernel) (Or.inr rfl)
theorem f121_24 : zft 121 24 = some (.aload_n 0, 1) := fet B121 (by decide +kernel) (Or.inr rfl)
theorem f121_25 : zft 121 25 = some (.getfield 22, 3) := fet B121 (by decide +kernel) (Or.inr rfl)
theorem f121_28 : zft 121 28 = some (.bipush 48, 2) := fet B121 (by decide +kernel) (Or.inr rfl)
theorem f121_30 : zft 121 30 = some (.iload_n 2, 1) := fet B121 (by decide +kernel) (Or.inr rfl)
theorem f121_31 : zft 121 31 = some (.iadd, 1) := fet B121 (by decide +kernel) (Or.inr rfl)
theorem f121_32 : zft 121 32 = some (.iaload, 1) := fet B121 (by decide +kernel) (Or.inr rfl)
theorem f121_33 : zft 121 33 = some (.invokestatic 131, 3) := fet B121 (by decide +kernel) (Or.inr rfl)
theorem f121_36 : zft 121 36 = some (.istore 4, 2) := fet B121 (by decide +kernel) (Or.inr rfl)
theorem f121_38 : zft 121 38 = some (.iload 4, 2) := fet B121 (by decide +kernel) (Or.inr rfl)
theorem f121_40 : zft 121 40 = some (.bipush (-9), 2) := fet B121 (by decide +kernel) (Or.inr rfl)
theorem f121_42 : zft 121 42 = some (.if_icmp .ne 10, 3) := fet B121 (by decide +kernel) (Or.inr rfl)
theorem f121_45 : zft 121 45 = some (.aload_n 0, 1) := fet B121 (by decide +kernel) (Or.inr rfl)
theorem f121_46 : zft 121 46 = some (.iconst 0, 1) := fet B121 (by decide +kernel) (Or.inr rfl)
theorem f121_47 : zft 121 47 = some (.putfield 128, 3) := fet B121 (by decide +kernel) (Or.inr rfl)
theorem f121_50 : zft 121 50 = some (.iload_n 2, 1) := fet B121 (by decide +kernel) (Or.inr rfl)
theorem f121_51 : zft 121 51 = some (.ireturn, 1) := fet B121 (by decide +kernel) (Or.inr rfl)
theorem f121_52 : zft 121 52 = some (.iload_n 3, 1) := fet B121 (by decide +kernel) (Or.inr rfl)
theorem f121_53 : zft 121 53 = some (.iconst 2, 1) := fet B121 (by decide +kernel) (Or.inr rfl)
theorem f121_54 : zft 121 54 = some (.if_icmp .ge 17, 3) := fet B121 (by decide +kernel) (Or.inr rfl)
theorem f121_57 : zft 121 57 = some (.aload_n 0, 1) := fet B121 (by decide +kernel) (Or.inr rfl)
theorem f121_58 : zft 121 58 = some (.getfield 31, 3) := fet B121 (by decide +kernel) (Or.inr rfl)
theorem f121_61 : zft 121 61 = some (.iconst 2, 1) := fet B121 (by decide +kernel) (Or.inr rfl)
theorem f121_62 : zft 121 62 = some (.iload_n 2, 1) := fet B121 (by decide +kernel) (Or.inr rfl)
theorem f121_63 : zft 121 63 = some (.iconst 3, 1) := fet B121 (by decide +kernel) (Or.inr rfl)
theorem f121_64 : zft 121 64 = some (.idiv, 1) := fet B121 (by decide +kernel) (Or.inr rfl)
theorem f121_65 : zft 121 65 = some (.imul, 1) := fet B121 (by decide +kernel) (Or.inr rfl)
theorem f121_66 : zft 121 66 = some (.iload_n 3, 1) := fet B121 (by decide +kernel) (Or.inr rfl)
theorem f121_67 : zft 121 67 = some (.iadd, 1) := fet B121 (by decide +kernel) (Or.inr rfl)
theorem f121_68 : zft 121 68 = some (.iload 4, 2) := fet B121 (by decide +kernel) (Or.inr rfl)
theorem f121_70 : zft 121 70 = some (.iastore, 1) := fet B121 (by decide +kernel) (Or.inr rfl)
theorem f121_71 : zft 121 71 = some (.aload_n 0, 1) := fet B121 (by decide +kernel) (Or.inr rfl)
theorem f121_72 : zft 121 72 = some (.dup, 1) := fet B121 (by decide +kernel) (Or.inr rfl)
theorem f121_73 : zft 121 73 = some (.getfield 128, 3) := fet B121 (by decide +kernel) (Or.inr rfl)
theorem f121_76 : zft 121 76 = some (.iload_n 3, 1) := fet B121 (by decide +kernel) (Or.inr rfl)
theorem f121_77 : zft 121 77 = some (.iconst 1, 1) := fet B121 (by decide +kernel) (Or.inr rfl)
theorem f121_78 : zft 121 78 = some (.if_icmp .ne 7, 3) := fet B121 (by decide +kernel) (Or.inr rfl)
theorem f121_81 : zft 121 81 = some (.iconst 1, 1) := fet B121 (by decide +kernel) (Or.inr rfl)
theorem f121_82 : zft 121 82 = some (.goto 4, 3) := fet B121 (by decide +kernel) (Or.inr rfl)
theorem f121_85 : zft 121 85 = some (.iconst 0, 1) := fet B121 (by decide +kernel) (Or.inr rfl)
theorem f121_86 : zft 121 86 = some (.iadd, 1) := fet B121 (by decide +kernel) (Or.inr rfl)
theorem f121_87 : zft 121 87 = some (.putfield 128, 3) := fet B121 (by decide +kernel) (Or.inr rfl)
theorem f121_90 : zft 121 90 = some (.iinc 2 1, 3) := fet B121 (by decide +kernel) (Or.inr rfl)
theorem f121_93 : zft 121 93 = some (.goto (-79), 3) := fet B121 (by decide +kernel) (Or.inr rfl)
theorem f121_96 : zft 121 96 = some (.iload_n 1, 1) := fet B121 (by decide +kernel) (Or.inr rfl)
theorem f121_97 : zft 121 97 = some (.ifCond .le 17, 3) := fet B121 (by decide +kernel) (Or.inr rfl)
theorem f121_100 : zft 121 100 = some (.iload_n 1, 1) := fet B121 (by decide +kernel) (Or.inr rfl)
theorem f121_101 : zft 121 101 = some (.iconst 3, 1) := fet B121 (by decide +kernel) (Or.inr rfl)
theorem f121_102 : zft 121 102 = some (.irem, 1) := fet B121 (by decide +kernel) (Or.inr rfl)
theorem f121_103 : zft 121 103 = some (.iconst 2, 1) := fet B121 (by decide +kernel) (Or.inr rfl)
theorem f121_104 : zft 121 104 = some (.if_icmp .eq 10, 3) := fet B121 (by decide +kernel) (Or.inr rfl)
theorem f121_107 : zft 121 107 = some (.aload_n 0, 1) := fet B121 (by decide +kernel) (Or.inr rfl)
theorem f121_108 : zft 121 108 = some (.iconst 0, 1) := fet B121 (by decide +kernel) (Or.inr rfl)
theorem f121_109 : zft 121 109 = some (.putfield 128, 3) := fet B121 (by decide +kernel) (Or.inr rfl)
theorem f121_112 : zft 121 112 = some (.iload_n 1, 1) := fet B121 (by decide +kernel) (Or.inr rfl)
theorem f121_113 : zft 121 113 = some (.ireturn, 1) := fet B121 (by decide +kernel) (Or.inr rfl)
theorem f121_114 : zft 121 114 = some (.iconst (-1), 1) := fet B121 (by decide +kernel) (Or.inr rfl)
theorem f121_115 : zft 121 115 = some (.ireturn, 1) := fet B121 (by decide +kernel) (Or.inr rfl)
theorem x121_0 : Rn S 121 0 [.ref q, v1, v2, v3, v4] st I J Q = Rn S 121 1 [.ref q, v1, v2, v3, v4] (.ref q :: st) I J Q := rL f121_0 rfl rfl
theorem x121_1 : Rn S 121 1 [v0, v1, v2, v3, v4] st I J Q = Rn S 121 2 [v0, v1, v2, v3, v4] (.int 0 :: st) I J Q := rS f121_1 rfl
theorem x121_2_65 : Rn (zG xl) 121 2 [v0, v1, v2, v3, v4] (.int a :: .ref 65 :: st) I J Q = Rn (zG xl) 121 5 [v0, v1, v2, v3, v4] st (zr I 65 (upd (I 65) 9 a)) J Q := (rPf f121_2 rfl).trans (tr_pf rfl rfl rfl)
theorem x121_5 : Rn S 121 5 [.ref q, v1, v2, v3, v4] st I J Q = Rn S 121 6 [.ref q, v1, v2, v3, v4] (.ref q :: st) I J Q := rL f121_5 rfl rfl
theorem x121_6_65 : Rn (zG xl) 121 6 [v0, v1, v2, v3, v4] (.ref 65 :: st) I J Q = Rn (zG xl) 121 9 [v0, v1, v2, v3, v4] (.ref 71 :: st) I J Q := (rGf f121_6 rfl).trans (tr_and rfl)
theorem x121_9 : Rn S 121 9 [v0, v1, v2, v3, v4] st I J Q = Rn S 121 10 [v0, v1, v2, v3, v4] (.int 1 :: st) I J Q := rS f121_9 rfl
theorem x121_10 : Rn S 121 10 [v0, v1, v2, v3, v4] (.int a :: .ref q :: st) I J Q = (zai S q a ∧ Rn S 121 11 [v0, v1, v2, v3, v4] (.int (I q a.toNatClampNeg) :: st) I J Q) := rIal f121_10
theorem x121_11 : Rn S 121 11 [v0, v1, v2, v3, v4] (.int a :: st) I J Q = Rn S 121 12 [zkl v0, .int a, v2, v3, v4] st I J Q := rL f121_11 rfl rfl
theorem x121_12 : Rn S 121 12 [v0, v1, v2, v3, v4] st I J Q = Rn S 121 13 [v0, v1, v2, v3, v4] (.int 0 :: st) I J Q := rS f121_12 rfl
theorem x121_13 : Rn S 121 13 [v0, v1, v2, v3, v4] (.int a :: st) I J Q = Rn S 121 14 [v0, zkl v1, .int a, v3, v4] st I J Q := rL f121_13 rfl rfl
theorem h121_14 : Rn S 121 14 [v0, v1, .int a, v3, v4] st I J Q = Rn S 121 15 [v0, v1, .int a, v3, v4] (.int a :: st) I J Q := rL f121_14 rfl rfl
theorem x121_15 : Rn S 121 15 [v0, .int a, v2, v3, v4] st I J Q = Rn S 121 16 [v0, .int a, v2, v3, v4] (.int a :: st) I J Q := rL f121_15 rfl rfl
theorem x121_16 : Rn S 121 16 [v0, v1, v2, v3, v4] (.int b :: .int a :: st) I J Q = if a < b then Rn S 121 19 [v0, v1, v2, v3, v4] st I J Q else Rn S 121 96 [v0, v1, v2, v3, v4] st I J Q := rCge f121_16 rfl rfl
theorem x121_19 : Rn S 121 19 [v0, v1, .int a, v3, v4] st I J Q = Rn S 121 20 [v0, v1, .int a, v3, v4] (.int a :: st) I J Q := rL f121_19 rfl rfl
theorem x121_20 : Rn S 121 20 [v0, v1, v2, v3, v4] st I J Q = Rn S 121 21 [v0, v1, v2, v3, v4] (.int 3 :: st) I J Q := rS f121_20 rfl
theorem x121_21 : Rn S 121 21 [v0, v1, v2, v3, v4] (.int b :: .int a :: st) I J Q = (¬ b = 0 ∧ Rn S 121 22 [v0, v1, v2, v3, v4] (.int (a - a / b * b) :: st) I J Q) := rRi f121_21
theorem x121_22 : Rn S 121 22 [v0, v1, v2, v3, v4] (.int a :: st) I J Q = Rn S 121 23 [v0, v1, zkl v2, .int a, v4] st I J Q := rL f121_22 rfl rfl
theorem x121_23 : Rn S 121 23 [v0, v1, v2, .int a, v4] st I J Q = Rn S 121 24 [v0, v1, v2, .int a, v4] (.int a :: st) I J Q := rL f121_23 rfl rfl
theorem x121_24 : Rn S 121 24 [.ref q, v1, v2, v3, v4] st I J Q = Rn S 121 25 [.ref q, v1, v2, v3, v4] (.ref q :: st) I J Q := rL f121_24 rfl rfl
theorem x121_25_65 : Rn (zG xl) 121 25 [v0, v1, v2, v3, v4] (.ref 65 :: st) I J Q = Rn (zG xl) 121 28 [v0, v1, v2, v3, v4] (.ref 70 :: st) I J Q := (rGf f121_25 rfl).trans (tr_and rfl)
theorem x121_28 : Rn S 121 28 [v0, v1, v2, v3, v4] st I J Q = Rn S 121 30 [v0, v1, v2, v3, v4] (.int 48 :: st) I J Q := rS f121_28 rfl
theorem x121_30 : Rn S 121 30 [v0, v1, .int a, v3, v4] st I J Q = Rn S 121 31 [v0, v1, .int a, v3, v4] (.int a :: st) I J Q := rL f121_30 rfl rfl
theorem x121_31 : Rn S 121 31 [v0, v1, v2, v3, v4] (.int b :: .int a :: st) I J Q = Rn S 121 32 [v0, v1, v2, v3, v4] (.int (a + b) :: st) I J Q := rS f121_31 rfl
theorem x121_32 : Rn S 121 32 [v0, v1, v2, v3, v4] (.int a :: .ref q :: st) I J Q = (zai S q a ∧ Rn S 121 33 [v0, v1, v2, v3, v4] (.int (I q a.toNatClampNeg) :: st) I J Q) := rIal f121_32
theorem x121_33 : Rn S 121 33 [v0, v1, v2, v3, v4] (.int a1 :: .int a0 :: st) I J Q = (zcs st ≤ 8 ∧ Rn S 120 0 [.int a0, .int a1] [] I J (fun v I' J' => Rn S 121 36 [v0, v1, v2, v3, v4] (v.toList ++ st) I' J' Q)) := rCS (As := [.int a0, .int a1]) f121_33 rfl rfl rfl rfl (Nat.le_of_ble_eq_true rfl)
theorem x121_36 : Rn S 121 36 [v0, v1, v2, v3, v4] (.int a :: st) I J Q = Rn S 121 38 [v0, v1, v2, zkl v3, .int a] st I J Q := rL f121_36 rfl rfl
theorem x121_38 : Rn S 121 38 [v0, v1, v2, v3, .int a] st I J Q = Rn S 121 40 [v0, v1, v2, v3, .int a] (.int a :: st) I J Q := rL f121_38 rfl rfl
theorem x121_40 : Rn S 121 40 [v0, v1, v2, v3, v4] st I J Q = Rn S 121 42 [v0, v1, v2, v3, v4] (.int (-9) :: st) I J Q := rS f121_40 rfl
theorem x121_42 : Rn S 121 42 [v0, v1, v2, v3, v4] (.int b :: .int a :: st) I J Q = if a = b then Rn S 121 45 [v0, v1, v2, v3, v4] st I J Q else Rn S 121 52 [v0, v1, v2, v3, v4] st I J Q := rCne f121_42 rfl rfl
theorem x121_45 : Rn S 121 45 [.ref q, v1, v2, v3, v4] st I J Q = Rn S 121 46 [.ref q, v1, v2, v3, v4] (.ref q :: st) I J Q := rL f121_45 rfl rfl
theorem x121_46 : Rn S 121 46 [v0, v1, v2, v3, v4] st I J Q = Rn S 121 47 [v0, v1, v2, v3, v4] (.int 0 :: st) I J Q := rS f121_46 rfl
theorem x121_47_65 : Rn (zG xl) 121 47 [v0, v1, v2, v3, v4] (.int a :: .ref 65 :: st) I J Q = Rn (zG xl) 121 50 [v0, v1, v2, v3, v4] st (zr I 65 (upd (I 65) 9 a)) J Q := (rPf f121_47 rfl).trans (tr_pf rfl rfl rfl)
theorem x121_50 : Rn S 121 50 [v0, v1, .int a, v3, v4] st I J Q = Rn S 121 51 [v0, v1, .int a, v3, v4] (.int a :: st) I J Q := rL f121_50 rfl rfl
theorem x121_51 : Rn S 121 51 [v0, v1, v2, v3, v4] [.int a] I J Q = Q (some (.int a)) I J := rR f121_51 rfl rfl rfl rfl rfl
theorem x121_52 : Rn S 121 52 [v0, v1, v2, .int a, v4] st I J Q = Rn S 121 53 [v0, v1, v2, .int a, v4] (.int a :: st) I J Q := rL f121_52 rfl rfl
theorem x121_53 : Rn S 121 53 [v0, v1, v2, v3, v4] st I J Q = Rn S 121 54 [v0, v1, v2, v3, v4] (.int 2 :: st) I J Q := rS f121_53 rfl
theorem x121_54 : Rn S 121 54 [v0, v1, v2, v3, v4] (.int b :: .int a :: st) I J Q = if a < b then Rn S 121 57 [v0, v1, v2, v3, v4] st I J Q else Rn S 121 71 [v0, v1, v2, v3, v4] st I J Q := rCge f121_54 rfl rfl
theorem x121_57 : Rn S 121 57 [.ref q, v1, v2, v3, v4] st I J Q = Rn S 121 58 [.ref q, v1, v2, v3, v4] (.ref q :: st) I J Q := rL f121_57 rfl rfl
theorem x121_58_65 : Rn (zG xl) 121 58 [v0, v1, v2, v3, v4] (.ref 65 :: st) I J Q = Rn (zG xl) 121 61 [v0, v1, v2, v3, v4] (.ref 73 :: st) I J Q := (rGf f121_58 rfl).trans (tr_and rfl)
theorem x121_61 : Rn S 121 61 [v0, v1, v2, v3, v4] st I J Q = Rn S 121 62 [v0, v1, v2, v3, v4] (.int 2 :: st) I J Q := rS f121_61 rfl
theorem x121_62 : Rn S 121 62 [v0, v1, .int a, v3, v4] st I J Q = Rn S 121 63 [v0, v1, .int a, v3, v4] (.int a :: st) I J Q := rL f121_62 rfl rfl
theorem x121_63 : Rn S 121 63 [v0, v1, v2, v3, v4] st I J Q = Rn S 121 64 [v0, v1, v2, v3, v4] (.int 3 :: st) I J Q := rS f121_63 rfl
theorem x121_64 : Rn S 121 64 [v0, v1, v2, v3, v4] (.int b :: .int a :: st) I J Q = (¬ b = 0 ∧ Rn S 121 65 [v0, v1, v2, v3, v4] (.int (a / b) :: st) I J Q) := rDi f121_64
theorem x121_65 : Rn S 121 65 [v0, v1, v2, v3, v4] (.int b :: .int a :: st) I J Q = Rn S 121 66 [v0, v1, v2, v3, v4] (.int (a * b) :: st) I J Q := rS f121_65 rfl
theorem x121_66 : Rn S 121 66 [v0, v1, v2, .int a, v4] st I J Q = Rn S 121 67 [v0, v1, v2, .int a, v4] (.int a :: st) I J Q := rL f121_66 rfl rfl
theorem x121_67 : Rn S 121 67 [v0, v1, v2, v3, v4] (.int b :: .int a :: st) I J Q = Rn S 121 68 [v0, v1, v2, v3, v4] (.int (a + b) :: st) I J Q := rS f121_67 rfl
theorem x121_68 : Rn S 121 68 [v0, v1, v2, v3, .int a] st I J Q = Rn S 121 70 [v0, v1, v2, v3, .int a] (.int a :: st) I J Q := rL f121_68 rfl rfl
theorem x121_70 : Rn S 121 70 [v0, v1, v2, v3, v4] (.int b :: .int a :: .ref q :: st) I J Q = (zas S q a ∧ Rn S 121 71 [v0, v1, v2, v3, v4] st (zr I q (upd (I q) a.toNatClampNeg b)) J Q) := rIas f121_70
theorem x121_71 : Rn S 121 71 [.ref q, v1, v2, v3, v4] st I J Q = Rn S 121 72 [.ref q, v1, v2, v3, v4] (.ref q :: st) I J Q := rL f121_71 rfl rfl
theorem x121_72i : Rn S 121 72 [v0, v1, v2, v3, v4] (.int a :: st) I J Q = Rn S 121 73 [v0, v1, v2, v3, v4] (.int a :: .int a :: st) I J Q := rS f121_72 rfl
theorem x121_72r : Rn S 121 72 [v0, v1, v2, v3, v4] (.ref q :: st) I J Q = Rn S 121 73 [v0, v1, v2, v3, v4] (.ref q :: .ref q :: st) I J Q := rS f121_72 rfl
theorem x121_73_65 : Rn (zG xl) 121 73 [v0, v1, v2, v3, v4] (.ref 65 :: st) I J Q = Rn (zG xl) 121 76 [v0, v1, v2, v3, v4] (.int (I 65 9) :: st) I J Q := (rGf f121_73 rfl).trans (tr_and rfl)
theorem x121_76 : Rn S 121 76 [v0, v1, v2, .int a, v4] st I J Q = Rn S 121 77 [v0, v1, v2, .int a, v4] (.int a :: st) I J Q := rL f121_76 rfl rfl
theorem x121_77 : Rn S 121 77 [v0, v1, v2, v3, v4] st I J Q = Rn S 121 78 [v0, v1, v2, v3, v4] (.int 1 :: st) I J Q := rS f121_77 rfl
theorem x121_78 : Rn S 121 78 [v0, v1, v2, v3, v4] (.int b :: .int a :: st) I J Q = if a = b then Rn S 121 81 [v0, v1, v2, v3, v4] st I J Q else Rn S 121 85 [v0, v1, v2, v3, v4] st I J Q := rCne f121_78 rfl rfl
theorem x121_81 : Rn S 121 81 [v0, v1, v2, v3, v4] st I J Q = Rn S 121 82 [v0, v1, v2, v3, v4] (.int 1 :: st) I J Q := rS f121_81 rfl
theorem x121_82 : Rn S 121 82 [v0, v1, v2, v3, v4] st I J Q = Rn S 121 86 [v0, v1, v2, v3, v4] st I J Q := rB f121_82 rfl rfl rfl
theorem x121_85 : Rn S 121 85 [v0, v1, v2, v3, v4] st I J Q = Rn S 121 86 [v0, v1, v2, v3, v4] (.int 0 :: st) I J Q := rS f121_85 rfl
theorem x121_86 : Rn S 121 86 [v0, v1, v2, v3, v4] (.int b :: .int a :: st) I J Q = Rn S 121 87 [v0, v1, v2, v3, v4] (.int (a + b) :: st) I J Q := rS f121_86 rfl
theorem x121_87_65 : Rn (zG xl) 121 87 [v0, v1, v2, v3, v4] (.int a :: .ref 65 :: st) I J Q = Rn (zG xl) 121 90 [v0, v1, v2, v3, v4] st (zr I 65 (upd (I 65) 9 a)) J Q := (rPf f121_87 rfl).trans (tr_pf rfl rfl rfl)
theorem x121_90 : Rn S 121 90 [v0, v1, .int a, v3, v4] st I J Q = Rn S 121 93 [v0, zkl v1, .int (a + 1), v3, v4] st I J Q := rL f121_90 rfl rfl
theorem x121_93 : Rn S 121 93 [v0, v1, v2, v3, v4] st I J Q = Rn S 121 14 [v0, v1, v2, v3, v4] st I J Q := rB f121_93 rfl rfl rfl
theorem x121_96 : Rn S 121 96 [v0, .int a, v2, v3, v4] st I J Q = Rn S 121 97 [v0, .int a, v2, v3, v4] (.int a :: st) I J Q := rL f121_96 rfl rfl
theorem x121_97 : Rn S 121 97 [v0, v1, v2, v3, v4] (.int a :: st) I J Q = if 0 < a then Rn S 121 100 [v0, v1, v2, v3, v4] st I J Q else Rn S 121 114 [v0, v1, v2, v3, v4] st I J Q := rIle f121_97 rfl rfl
theorem x121_100 : Rn S 121 100 [v0, .int a, v2, v3, v4] st I J Q = Rn S 121 101 [v0, .int a, v2, v3, v4] (.int a :: st) I J Q := rL f121_100 rfl rfl
theorem x121_101 : Rn S 121 101 [v0, v1, v2, v3, v4] st I J Q = Rn S 121 102 [v0, v1, v2, v3, v4] (.int 3 :: st) I J Q := rS f121_101 rfl
theorem x121_102 : Rn S 121 102 [v0, v1, v2, v3, v4] (.int b :: .int a :: st) I J Q = (¬ b = 0 ∧ Rn S 121 103 [v0, v1, v2, v3, v4] (.int (a - a / b * b) :: st) I J Q) := rRi f121_102
theorem x121_103 : Rn S 121 103 [v0, v1, v2, v3, v4] st I J Q = Rn S 121 104 [v0, v1, v2, v3, v4] (.int 2 :: st) I J Q := rS f121_103 rfl
theorem x121_104 : Rn S 121 104 [v0, v1, v2, v3, v4] (.int b :: .int a :: st) I J Q = if a = b then Rn S 121 114 [v0, v1, v2, v3, v4] st I J Q else Rn S 121 107 [v0, v1, v2, v3, v4] st I J Q := rCeq f121_104 rfl rfl
theorem x121_107 : Rn S 121 107 [.ref q, v1, v2, v3, v4] st I J Q = Rn S 121 108 [.ref q, v1, v2, v3, v4] (.ref q :: st) I J Q := rL f121_107 rfl rfl
theorem x121_108 : Rn S 121 108 [v0, v1, v2, v3, v4] st I J Q = Rn S 121 109 [v0, v1, v2, v3, v4] (.int 0 :: st) I J Q := rS f121_108 rfl
theorem x121_109_65 : Rn (zG xl) 121 109 [v0, v1, v2, v3, v4] (.int a :: .ref 65 :: st) I J Q = Rn (zG xl) 121 112 [v0, v1, v2, v3, v4] st (zr I 65 (upd (I 65) 9 a)) J Q := (rPf f121_109 rfl).trans (tr_pf rfl rfl rfl)
theorem x121_112 : Rn S 121 112 [v0, .int a, v2, v3, v4] st I J Q = Rn S 121 113 [v0, .int a, v2, v3, v4] (.int a :: st) I J Q := rL f121_112 rfl rfl
theorem x121_113 : Rn S 121 113 [v0, v1, v2, v3, v4] [.int a] I J Q = Q (some (.int a)) I J := rR f121_113 rfl rfl rfl rfl rfl
theorem x121_114 : Rn S 121 114 [v0, v1, v2, v3, v4] st I J Q = Rn S 121 115 [v0, v1, v2, v3, v4] (.int (-1) :: st) I J Q := rS f121_114 rfl
theorem x121_115 : Rn S 121 115 [v0, v1, v2, v3, v4] [.int a] I J Q = Q (some (.int a)) I J := rR f121_115 rfl rfl rfl rfl rfl
/-! X6.shiftOf: 122 -/
theorem B122 : zB 122 = cX6_shiftOf := rfl
theorem f122_0 : zft 122 0 = some (.iload_n 0, 1) := fet B122 (by decide +kernel) (Or.inr rfl)
theorem f122_1 : zft 122 1 = some (.ifCond .ne 12, 3) := fet B122 (by decide +kernel) (Or.inr rfl)
theorem f122_4 : zft 122 4 = some (.iload_n 1, 1) := fet B122 (by decide +kernel) (Or.inr rfl)
theorem f122_5 : zft 122 5 = some (.iconst 0, 1) := fet B122 (by decide +kernel) (Or.inr rfl)
theorem f122_6 : zft 122 6 = some (.iconst 5, 1) := fet B122 (by decide +kernel) (Or.inr rfl)
theorem f122_7 : zft 122 7 = some (.invokestatic 119, 3) := fet B122 (by decide +kernel) (Or.inr rfl)
theorem f122_10 : zft 122 10 = some (.goto 30, 3) := fet B122 (by decide +kernel) (Or.inr rfl)
theorem f122_13 : zft 122 13 = some (.iload_n 0, 1) := fet B122 (by decide +kernel) (Or.inr rfl)
theorem f122_14 : zft 122 14 = some (.iconst 1, 1) := fet B122 (by decide +kernel) (Or.inr rfl)
theorem f122_15 : zft 122 15 = some (.if_icmp .ne 13, 3) := fet B122 (by decide +kernel) (Or.inr rfl)
theorem f122_18 : zft 122 18 = some (.iload_n 1, 1) := fet B122 (by decide +kernel) (Or.inr rfl)
theorem f122_19 : zft 122 19 = some (.iconst 0, 1) := fet B122 (by decide +kernel) (Or.inr rfl)
theorem f122_20 : zft 122 20 = some (.bipush 9, 2) := fet B122 (by decide +kernel) (Or.inr rfl)
theorem f122_22 : zft 122 22 = some (.invokestatic 119, 3) := fet B122 (by decide +kernel) (Or.inr rfl)
theorem f122_25 : zft 122 25 = some (.goto 15, 3) := fet B122 (by decide +kernel) (Or.inr rfl)
theorem f122_28 : zft 122 28 = some (.iload_n 1, 1) := fet B122 (by decide +kernel) (Or.inr rfl)
theorem f122_29 : zft 122 29 = some (.bipush 59, 2) := fet B122 (by decide +kernel) (Or.inr rfl)
theorem f122_31 : zft 122 31 = some (.if_icmp .ne 7, 3) := fet B122 (by decide +kernel) (Or.inr rfl)
theorem f122_34 : zft 122 34 = some (.iconst 0, 1) := fet B122 (by decide +kernel) (Or.inr rfl)
theorem f122_35 : zft 122 35 = some (.goto 5, 3) := fet B122 (by decide +kernel) (Or.inr rfl)
theorem f122_38 : zft 122 38 = some (.bipush (-9), 2) := fet B122 (by decide +kernel) (Or.inr rfl)
theorem f122_40 : zft 122 40 = some (.ireturn, 1) := fet B122 (by decide +kernel) (Or.inr rfl)
theorem x122_0 : Rn S 122 0 [.int a, v1] st I J Q = Rn S 122 1 [.int a, v1] (.int a :: st) I J Q := rL f122_0 rfl rfl
theorem x122_1 : Rn S 122 1 [v0, v1] (.int a :: st) I J Q = if a = 0 then Rn S 122 4 [v0, v1] st I J Q else Rn S 122 13 [v0, v1] st I J Q := rIne f122_1 rfl rfl
theorem x122_4 : Rn S 122 4 [v0, .int a] st I J Q = Rn S 122 5 [v0, .int a] (.int a :: st) I J Q := rL f122_4 rfl rfl
theorem x122_5 : Rn S 122 5 [v0, v1] st I J Q = Rn S 122 6 [v0, v1] (.int 0 :: st) I J Q := rS f122_5 rfl
theorem x122_6 : Rn S 122 6 [v0, v1] st I J Q = Rn S 122 7 [v0, v1] (.int 5 :: st) I J Q := rS f122_6 rfl
theorem x122_7 : Rn S 122 7 [v0, v1] (.int a2 :: .int a1 :: .int a0 :: st) I J Q = (zcs st ≤ 8 ∧ Rn S 117 0 [.int a0, .int a1, .int a2] [] I J (fun v I' J' => Rn S 122 10 [v0, v1] (v.toList ++ st) I' J' Q)) := rCS (As := [.int a0, .int a1, .int a2]) f122_7 rfl rfl rfl rfl (Nat.le_of_ble_eq_true rfl)
theorem x122_10 : Rn S 122 10 [v0, v1] st I J Q = Rn S 122 40 [v0, v1] st I J Q := rB f122_10 rfl rfl rfl
theorem x122_13 : Rn S 122 13 [.int a, v1] st I J Q = Rn S 122 14 [.int a, v1] (.int a :: st) I J Q := rL f122_13 rfl rfl
theorem x122_14 : Rn S 122 14 [v0, v1] st I J Q = Rn S 122 15 [v0, v1] (.int 1 :: st) I J Q := rS f122_14 rfl
theorem x122_15 : Rn S 122 15 [v0, v1] (.int b :: .int a :: st) I J Q = if a = b then Rn S 122 18 [v0, v1] st I J Q else Rn S 122 28 [v0, v1] st I J Q := rCne f122_15 rfl rfl
theorem x122_18 : Rn S 122 18 [v0, .int a] st I J Q = Rn S 122 19 [v0, .int a] (.int a :: st) I J Q := rL f122_18 rfl rfl
theorem x122_19 : Rn S 122 19 [v0, v1] st I J Q = Rn S 122 20 [v0, v1] (.int 0 :: st) I J Q := rS f122_19 rfl
theorem x122_20 : Rn S 122 20 [v0, v1] st I J Q = Rn S 122 22 [v0, v1] (.int 9 :: st) I J Q := rS f122_20 rfl
theorem x122_22 : Rn S 122 22 [v0, v1] (.int a2 :: .int a1 :: .int a0 :: st) I J Q = (zcs st ≤ 8 ∧ Rn S 117 0 [.int a0, .int a1, .int a2] [] I J (fun v I' J' => Rn S 122 25 [v0, v1] (v.toList ++ st) I' J' Q)) := rCS (As := [.int a0, .int a1, .int a2]) f122_22 rfl rfl rfl rfl (Nat.le_of_ble_eq_true rfl)
theorem x122_25 : Rn S 122 25 [v0, v1] st I J Q = Rn S 122 40 [v0, v1] st I J Q := rB f122_25 rfl rfl rfl
theorem x122_28 : Rn S 122 28 [v0, .int a] st I J Q = Rn S 122 29 [v0, .int a] (.int a :: st) I J Q := rL f122_28 rfl rfl
theorem x122_29 : Rn S 122 29 [v0, v1] st I J Q = Rn S 122 31 [v0, v1] (.int 59 :: st) I J Q := rS f122_29 rfl
theorem x122_31 : Rn S 122 31 [v0, v1] (.int b :: .int a :: st) I J Q = if a = b then Rn S 122 34 [v0, v1] st I J Q else Rn S 122 38 [v0, v1] st I J Q := rCne f122_31 rfl rfl
theorem x122_34 : Rn S 122 34 [v0, v1] st I J Q = Rn S 122 35 [v0, v1] (.int 0 :: st) I J Q := rS f122_34 rfl
theorem x122_35 : Rn S 122 35 [v0, v1] st I J Q = Rn S 122 40 [v0, v1] st I J Q := rB f122_35 rfl rfl rfl
theorem x122_38 : Rn S 122 38 [v0, v1] st I J Q = Rn S 122 40 [v0, v1] (.int (-9) :: st) I J Q := rS f122_38 rfl
theorem x122_40 : Rn S 122 40 [v0, v1] [.int a] I J Q = Q (some (.int a)) I J := rR f122_40 rfl rfl rfl rfl rfl
/-! X6.readsShifts: 123 -/
theorem B123 : zB 123 = cX6_readsShifts := rfl
theorem f123_0 : zft 123 0 = some (.aload_n 0, 1) := fet B123 (by decide +kernel) (Or.inr rfl)
theorem f123_1 : zft 123 1 = some (.iconst 0, 1) := fet B123 (by decide +kernel) (Or.inr rfl)
theorem f123_2 : zft 123 2 = some (.putfield 134, 3) := fet B123 (by decide +kernel) (Or.inr rfl)
theorem f123_5 : zft 123 5 = some (.aload_n 0, 1) := fet B123 (by decide +kernel) (Or.inr rfl)
theorem f123_6 : zft 123 6 = some (.getfield 25, 3) := fet B123 (by decide +kernel) (Or.inr rfl)
theorem f123_9 : zft 123 9 = some (.iconst 2, 1) := fet B123 (by decide +kernel) (Or.inr rfl)
theorem f123_10 : zft 123 10 = some (.iaload, 1) := fet B123 (by decide +kernel) (Or.inr rfl)
theorem f123_11 : zft 123 11 = some (.istore_n 1, 1) := fet B123 (by decide +kernel) (Or.inr rfl)
theorem f123_12 : zft 123 12 = some (.iconst 0, 1) := fet B123 (by decide +kernel) (Or.inr rfl)
theorem f123_13 : zft 123 13 = some (.istore_n 2, 1) := fet B123 (by decide +kernel) (Or.inr rfl)
theorem f123_14 : zft 123 14 = some (.iload_n 2, 1) := fet B123 (by decide +kernel) (Or.inr rfl)
theorem f123_15 : zft 123 15 = some (.iload_n 1, 1) := fet B123 (by decide +kernel) (Or.inr rfl)
theorem f123_16 : zft 123 16 = some (.if_icmp .ge 80, 3) := fet B123 (by decide +kernel) (Or.inr rfl)
theorem f123_19 : zft 123 19 = some (.iload_n 2, 1) := fet B123 (by decide +kernel) (Or.inr rfl)
theorem f123_20 : zft 123 20 = some (.iconst 3, 1) := fet B123 (by decide +kernel) (Or.inr rfl)
theorem f123_21 : zft 123 21 = some (.irem, 1) := fet B123 (by decide +kernel) (Or.inr rfl)
theorem f123_22 : zft 123 22 = some (.istore_n 3, 1) := fet B123 (by decide +kernel) (Or.inr rfl)
theorem f123_23 : zft 123 23 = some (.iload_n 3, 1) := fet B123 (by decide +kernel) (Or.inr rfl)
theorem f123_24 : zft 123 24 = some (.aload_n 0, 1) := fet B123 (by decide +kernel) (Or.inr rfl)
theorem f123_25 : zft 123 25 = some (.getfield 22, 3) := fet B123 (by decide +kernel) (Or.inr rfl)
theorem f123_28 : zft 123 28 = some (.bipush 96, 2) := fet B123 (by decide +kernel) (Or.inr rfl)
theorem f123_30 : zft 123 30 = some (.iload_n 2, 1) := fet B123 (by decide +kernel) (Or.inr rfl)
theorem f123_31 : zft 123 31 = some (.iadd, 1) := fet B123 (by decide +kernel) (Or.inr rfl)
theorem f123_32 : zft 123 32 = some (.iaload, 1) := fet B123 (by decide +kernel) (Or.inr rfl)
theorem f123_33 : zft 123 33 = some (.invokestatic 137, 3) := fet B123 (by decide +kernel) (Or.inr rfl)
theorem f123_36 : zft 123 36 = some (.istore 4, 2) := fet B123 (by decide +kernel) (Or.inr rfl)
theorem f123_38 : zft 123 38 = some (.iload 4, 2) := fet B123 (by decide +kernel) (Or.inr rfl)
theorem f123_40 : zft 123 40 = some (.bipush (-9), 2) := fet B123 (by decide +kernel) (Or.inr rfl)
theorem f123_42 : zft 123 42 = some (.if_icmp .ne 10, 3) := fet B123 (by decide +kernel) (Or.inr rfl)
theorem f123_45 : zft 123 45 = some (.aload_n 0, 1) := fet B123 (by decide +kernel) (Or.inr rfl)
theorem f123_46 : zft 123 46 = some (.iconst 0, 1) := fet B123 (by decide +kernel) (Or.inr rfl)
theorem f123_47 : zft 123 47 = some (.putfield 134, 3) := fet B123 (by decide +kernel) (Or.inr rfl)
theorem f123_50 : zft 123 50 = some (.iload_n 2, 1) := fet B123 (by decide +kernel) (Or.inr rfl)
theorem f123_51 : zft 123 51 = some (.ireturn, 1) := fet B123 (by decide +kernel) (Or.inr rfl)
theorem f123_52 : zft 123 52 = some (.iload_n 3, 1) := fet B123 (by decide +kernel) (Or.inr rfl)
theorem f123_53 : zft 123 53 = some (.iconst 2, 1) := fet B123 (by decide +kernel) (Or.inr rfl)
theorem f123_54 : zft 123 54 = some (.if_icmp .ge 17, 3) := fet B123 (by decide +kernel) (Or.inr rfl)
theorem f123_57 : zft 123 57 = some (.aload_n 0, 1) := fet B123 (by decide +kernel) (Or.inr rfl)
theorem f123_58 : zft 123 58 = some (.getfield 34, 3) := fet B123 (by decide +kernel) (Or.inr rfl)
theorem f123_61 : zft 123 61 = some (.iconst 2, 1) := fet B123 (by decide +kernel) (Or.inr rfl)
theorem f123_62 : zft 123 62 = some (.iload_n 2, 1) := fet B123 (by decide +kernel) (Or.inr rfl)
theorem f123_63 : zft 123 63 = some (.iconst 3, 1) := fet B123 (by decide +kernel) (Or.inr rfl)
theorem f123_64 : zft 123 64 = some (.idiv, 1) := fet B123 (by decide +kernel) (Or.inr rfl)
theorem f123_65 : zft 123 65 = some (.imul, 1) := fet B123 (by decide +kernel) (Or.inr rfl)
theorem f123_66 : zft 123 66 = some (.iload_n 3, 1) := fet B123 (by decide +kernel) (Or.inr rfl)
theorem f123_67 : zft 123 67 = some (.iadd, 1) := fet B123 (by decide +kernel) (Or.inr rfl)
theorem f123_68 : zft 123 68 = some (.iload 4, 2) := fet B123 (by decide +kernel) (Or.inr rfl)
theorem f123_70 : zft 123 70 = some (.iastore, 1) := fet B123 (by decide +kernel) (Or.inr rfl)
theorem f123_71 : zft 123 71 = some (.aload_n 0, 1) := fet B123 (by decide +kernel) (Or.inr rfl)
theorem f123_72 : zft 123 72 = some (.dup, 1) := fet B123 (by decide +kernel) (Or.inr rfl)
theorem f123_73 : zft 123 73 = some (.getfield 134, 3) := fet B123 (by decide +kernel) (Or.inr rfl)
theorem f123_76 : zft 123 76 = some (.iload_n 3, 1) := fet B123 (by decide +kernel) (Or.inr rfl)
theorem f123_77 : zft 123 77 = some (.iconst 1, 1) := fet B123 (by decide +kernel) (Or.inr rfl)
theorem f123_78 : zft 123 78 = some (.if_icmp .ne 7, 3) := fet B123 (by decide +kernel) (Or.inr rfl)
theorem f123_81 : zft 123 81 = some (.iconst 1, 1) := fet B123 (by decide +kernel) (Or.inr rfl)
theorem f123_82 : zft 123 82 = some (.goto 4, 3) := fet B123 (by decide +kernel) (Or.inr rfl)
theorem f123_85 : zft 123 85 = some (.iconst 0, 1) := fet B123 (by decide +kernel) (Or.inr rfl)
theorem f123_86 : zft 123 86 = some (.iadd, 1) := fet B123 (by decide +kernel) (Or.inr rfl)
theorem f123_87 : zft 123 87 = some (.putfield 134, 3) := fet B123 (by decide +kernel) (Or.inr rfl)
theorem f123_90 : zft 123 90 = some (.iinc 2 1, 3) := fet B123 (by decide +kernel) (Or.inr rfl)
theorem f123_93 : zft 123 93 = some (.goto (-79), 3) := fet B123 (by decide +kernel) (Or.inr rfl)
theorem f123_96 : zft 123 96 = some (.iload_n 1, 1) := fet B123 (by decide +kernel) (Or.inr rfl)
theorem f123_97 : zft 123 97 = some (.ifCond .le 17, 3) := fet B123 (by decide +kernel) (Or.inr rfl)
theorem f123_100 : zft 123 100 = some (.iload_n 1, 1) := fet B123 (by decide +kernel) (Or.inr rfl)
theorem f123_101 : zft 123 101 = some (.iconst 3, 1) := fet B123 (by decide +kernel) (Or.inr rfl)
theorem f123_102 : zft 123 102 = some (.irem, 1) := fet B123 (by decide +kernel) (Or.inr rfl)
theorem f123_103 : zft 123 103 = some (.iconst 2, 1) := fet B123 (by decide +kernel) (Or.inr rfl)
theorem f123_104 : zft 123 104 = some (.if_icmp .eq 10, 3) := fet B123 (by decide +kernel) (Or.inr rfl)
theorem f123_107 : zft 123 107 = some (.aload_n 0, 1) := fet B123 (by decide +kernel) (Or.inr rfl)
theorem f123_108 : zft 123 108 = some (.iconst 0, 1) := fet B123 (by decide +kernel) (Or.inr rfl)
theorem f123_109 : zft 123 109 = some (.putfield 134, 3) := fet B123 (by decide +kernel) (Or.inr rfl)
theorem f123_112 : zft 123 112 = some (.iload_n 1, 1) := fet B123 (by decide +kernel) (Or.inr rfl)
theorem f123_113 : zft 123 113 = some (.ireturn, 1) := fet B123 (by decide +kernel) (Or.inr rfl)
theorem f123_114 : zft 123 114 = some (.iconst (-1), 1) := fet B123 (by decide +kernel) (Or.inr rfl)
theorem f123_115 : zft 123 115 = some (.ireturn, 1) := fet B123 (by decide +kernel) (Or.inr rfl)
theorem x123_0 : Rn S 123 0 [.ref q, v1, v2, v3, v4] st I J Q = Rn S 123 1 [.ref q, v1, v2, v3, v4] (.ref q :: st) I J Q := rL f123_0 rfl rfl
theorem x123_1 : Rn S 123 1 [v0, v1, v2, v3, v4] st I J Q = Rn S 123 2 [v0, v1, v2, v3, v4] (.int 0 :: st) I J Q := rS f123_1 rfl
theorem x123_2_65 : Rn (zG xl) 123 2 [v0, v1, v2, v3, v4] (.int a :: .ref 65 :: st) I J Q = Rn (zG xl) 123 5 [v0, v1, v2, v3, v4] st (zr I 65 (upd (I 65) 11 a)) J Q := (rPf f123_2 rfl).trans (tr_pf rfl rfl rfl)
theorem x123_5 : Rn S 123 5 [.ref q, v1, v2, v3, v4] st I J Q = Rn S 123 6 [.ref q, v1, v2, v3, v4] (.ref q :: st) I J Q := rL f123_5 rfl rfl
theorem x123_6_65 : Rn (zG xl) 123 6 [v0, v1, v2, v3, v4] (.ref 65 :: st) I J Q = Rn (zG xl) 123 9 [v0, v1, v2, v3, v4] (.ref 71 :: st) I J Q := (rGf f123_6 rfl).trans (tr_and rfl)
theorem x123_9 : Rn S 123 9 [v0, v1, v2, v3, v4] st I J Q = Rn S 123 10 [v0, v1, v2, v3, v4] (.int 2 :: st) I J Q := rS f123_9 rfl
theorem x123_10 : Rn S 123 10 [v0, v1, v2, v3, v4] (.int a :: .ref q :: st) I J Q = (zai S q a ∧ Rn S 123 11 [v0, v1, v2, v3, v4] (.int (I q a.toNatClampNeg) :: st) I J Q) := rIal f123_10
theorem x123_11 : Rn S 123 11 [v0, v1, v2, v3, v4] (.int a :: st) I J Q = Rn S 123 12 [zkl v0, .int a, v2, v3, v4] st I J Q := rL f123_11 rfl rfl
theorem x123_12 : Rn S 123 12 [v0, v1, v2, v3, v4] st I J Q = Rn S 123 13 [v0, v1, v2, v3, v4] (.int 0 :: st) I J Q := rS f123_12 rfl
theorem x123_13 : Rn S 123 13 [v0, v1, v2, v3, v4] (.int a :: st) I J Q = Rn S 123 14 [v0, zkl v1, .int a, v3, v4] st I J Q := rL f123_13 rfl rfl
theorem h123_14 : Rn S 123 14 [v0, v1, .int a, v3, v4] st I J Q = Rn S 123 15 [v0, v1, .int a, v3, v4] (.int a :: st) I J Q := rL f123_14 rfl rfl
theorem x123_15 : Rn S 123 15 [v0, .int a, v2, v3, v4] st I J Q = Rn S 123 16 [v0, .int a, v2, v3, v4] (.int a :: st) I J Q := rL f123_15 rfl rfl
theorem x123_16 : Rn S 123 16 [v0, v1, v2, v3, v4] (.int b :: .int a :: st) I J Q = if a < b then Rn S 123 19 [v0, v1, v2, v3, v4] st I J Q else Rn S 123 96 [v0, v1, v2, v3, v4] st I J Q := rCge f123_16 rfl rfl
theorem x123_19 : Rn S 123 19 [v0, v1, .int a, v3, v4] st I J Q = Rn S 123 20 [v0, v1, .int a, v3, v4] (.int a :: st) I J Q := rL f123_19 rfl rfl
theorem x123_20 : Rn S 123 20 [v0, v1, v2, v3, v4] st I J Q = Rn S 123 21 [v0, v1, v2, v3, v4] (.int 3 :: st) I J Q := rS f123_20 rfl
theorem x123_21 : Rn S 123 21 [v0, v1, v2, v3, v4] (.int b :: .int a :: st) I J Q = (¬ b = 0 ∧ Rn S 123 22 [v0, v1, v2, v3, v4] (.int (a - a / b * b) :: st) I J Q) := rRi f123_21
theorem x123_22 : Rn S 123 22 [v0, v1, v2, v3, v4] (.int a :: st) I J Q = Rn S 123 23 [v0, v1, zkl v2, .int a, v4] st I J Q := rL f123_22 rfl rfl
theorem x123_23 : Rn S 123 23 [v0, v1, v2, .int a, v4] st I J Q = Rn S 123 24 [v0, v1, v2, .int a, v4] (.int a :: st) I J Q := rL f123_23 rfl rfl
theorem x123_24 : Rn S 123 24 [.ref q, v1, v2, v3, v4] st I J Q = Rn S 123 25 [.ref q, v1, v2, v3, v4] (.ref q :: st) I J Q := rL f123_24 rfl rfl
theorem x123_25_65 : Rn (zG xl) 123 25 [v0, v1, v2, v3, v4] (.ref 65 :: st) I J Q = Rn (zG xl) 123 28 [v0, v1, v2, v3, v4] (.ref 70 :: st) I J Q := (rGf f123_25 rfl).trans (tr_and rfl)
theorem x123_28 : Rn S 123 28 [v0, v1, v2, v3, v4] st I J Q = Rn S 123 30 [v0, v1, v2, v3, v4] (.int 96 :: st) I J Q := rS f123_28 rfl
theorem x123_30 : Rn S 123 30 [v0, v1, .int a, v3, v4] st I J Q = Rn S 123 31 [v0, v1, .int a, v3, v4] (.int a :: st) I J Q := rL f123_30 rfl rfl
theorem x123_31 : Rn S 123 31 [v0, v1, v2, v3, v4] (.int b :: .int a :: st) I J Q = Rn S 123 32 [v0, v1, v2, v3, v4] (.int (a + b) :: st) I J Q := rS f123_31 rfl
theorem x123_32 : Rn S 123 32 [v0, v1, v2, v3, v4] (.int a :: .ref q :: st) I J Q = (zai S q a ∧ Rn S 123 33 [v0, v1, v2, v3, v4] (.int (I q a.toNatClampNeg) :: st) I J Q) := rIal f123_32
theorem x123_33 : Rn S 123 33 [v0, v1, v2, v3, v4] (.int a1 :: .int a0 :: st) I J Q = (zcs st ≤ 8 ∧ Rn S 122 0 [.int a0, .int a1] [] I J (fun v I' J' => Rn S 123 36 [v0, v1, v2, v3, v4] (v.toList ++ st) I' J' Q)) := rCS (As := [.int a0, .int a1]) f123_33 rfl rfl rfl rfl (Nat.le_of_ble_eq_true rfl)
theorem x123_36 : Rn S 123 36 [v0, v1, v2, v3, v4] (.int a :: st) I J Q = Rn S 123 38 [v0, v1, v2, zkl v3, .int a] st I J Q := rL f123_36 rfl rfl
theorem x123_38 : Rn S 123 38 [v0, v1, v2, v3, .int a] st I J Q = Rn S 123 40 [v0, v1, v2, v3, .int a] (.int a :: st) I J Q := rL f123_38 rfl rfl
theorem x123_40 : Rn S 123 40 [v0, v1, v2, v3, v4] st I J Q = Rn S 123 42 [v0, v1, v2, v3, v4] (.int (-9) :: st) I J Q := rS f123_40 rfl
theorem x123_42 : Rn S 123 42 [v0, v1, v2, v3, v4] (.int b :: .int a :: st) I J Q = if a = b then Rn S 123 45 [v0, v1, v2, v3, v4] st I J Q else Rn S 123 52 [v0, v1, v2, v3, v4] st I J Q := rCne f123_42 rfl rfl
theorem x123_45 : Rn S 123 45 [.ref q, v1, v2, v3, v4] st I J Q = Rn S 123 46 [.ref q, v1, v2, v3, v4] (.ref q :: st) I J Q := rL f123_45 rfl rfl
theorem x123_46 : Rn S 123 46 [v0, v1, v2, v3, v4] st I J Q = Rn S 123 47 [v0, v1, v2, v3, v4] (.int 0 :: st) I J Q := rS f123_46 rfl
theorem x123_47_65 : Rn (zG xl) 123 47 [v0, v1, v2, v3, v4] (.int a :: .ref 65 :: st) I J Q = Rn (zG xl) 123 50 [v0, v1, v2, v3, v4] st (zr I 65 (upd (I 65) 11 a)) J Q := (rPf f123_47 rfl).trans (tr_pf rfl rfl rfl)
theorem x123_50 : Rn S 123 50 [v0, v1, .int a, v3, v4] st I J Q = Rn S 123 51 [v0, v1, .int a, v3, v4] (.int a :: st) I J Q := rL f123_50 rfl rfl
theorem x123_51 : Rn S 123 51 [v0, v1, v2, v3, v4] [.int a] I J Q = Q (some (.int a)) I J := rR f123_51 rfl rfl rfl rfl rfl
theorem x123_52 : Rn S 123 52 [v0, v1, v2, .int a, v4] st I J Q = Rn S 123 53 [v0, v1, v2, .int a, v4] (.int a :: st) I J Q := rL f123_52 rfl rfl
theorem x123_53 : Rn S 123 53 [v0, v1, v2, v3, v4] st I J Q = Rn S 123 54 [v0, v1, v2, v3, v4] (.int 2 :: st) I J Q := rS f123_53 rfl
theorem x123_54 : Rn S 123 54 [v0, v1, v2, v3, v4] (.int b :: .int a :: st) I J Q = if a < b then Rn S 123 57 [v0, v1, v2, v3, v4] st I J Q else Rn S 123 71 [v0, v1, v2, v3, v4] st I J Q := rCge f123_54 rfl rfl
theorem x123_57 : Rn S 123 57 [.ref q, v1, v2, v3, v4] st I J Q = Rn S 123 58 [.ref q, v1, v2, v3, v4] (.ref q :: st) I J Q := rL f123_57 rfl rfl
theorem x123_58_65 : Rn (zG xl) 123 58 [v0, v1, v2, v3, v4] (.ref 65 :: st) I J Q = Rn (zG xl) 123 61 [v0, v1, v2, v3, v4] (.ref 74 :: st) I J Q := (rGf f123_58 rfl).trans (tr_and rfl)
theorem x123_61 : Rn S 123 61 [v0, v1, v2, v3, v4] st I J Q = Rn S 123 62 [v0, v1, v2, v3, v4] (.int 2 :: st) I J Q := rS f123_61 rfl
theorem x123_62 : Rn S 123 62 [v0, v1, .int a, v3, v4] st I J Q = Rn S 123 63 [v0, v1, .int a, v3, v4] (.int a :: st) I J Q := rL f123_62 rfl rfl
theorem x123_63 : Rn S 123 63 [v0, v1, v2, v3, v4] st I J Q = Rn S 123 64 [v0, v1, v2, v3, v4] (.int 3 :: st) I J Q := rS f123_63 rfl
theorem x123_64 : Rn S 123 64 [v0, v1, v2, v3, v4] (.int b :: .int a :: st) I J Q = (¬ b = 0 ∧ Rn S 123 65 [v0, v1, v2, v3, v4] (.int (a / b) :: st) I J Q) := rDi f123_64
theorem x123_65 : Rn S 123 65 [v0, v1, v2, v3, v4] (.int b :: .int a :: st) I J Q = Rn S 123 66 [v0, v1, v2, v3, v4] (.int (a * b) :: st) I J Q := rS f123_65 rfl
theorem x123_66 : Rn S 123 66 [v0, v1, v2, .int a, v4] st I J Q = Rn S 123 67 [v0, v1, v2, .int a, v4] (.int a :: st) I J Q := rL f123_66 rfl rfl
theorem x123_67 : Rn S 123 67 [v0, v1, v2, v3, v4] (.int b :: .int a :: st) I J Q = Rn S 123 68 [v0, v1, v2, v3, v4] (.int (a + b) :: st) I J Q := rS f123_67 rfl
theorem x123_68 : Rn S 123 68 [v0, v1, v2, v3, .int a] st I J Q = Rn S 123 70 [v0, v1, v2, v3, .int a] (.int a :: st) I J Q := rL f123_68 rfl rfl
theorem x123_70 : Rn S 123 70 [v0, v1, v2, v3, v4] (.int b :: .int a :: .ref q :: st) I J Q = (zas S q a ∧ Rn S 123 71 [v0, v1, v2, v3, v4] st (zr I q (upd (I q) a.toNatClampNeg b)) J Q) := rIas f123_70
theorem x123_71 : Rn S 123 71 [.ref q, v1, v2, v3, v4] st I J Q = Rn S 123 72 [.ref q, v1, v2, v3, v4] (.ref q :: st) I J Q := rL f123_71 rfl rfl
theorem x123_72i : Rn S 123 72 [v0, v1, v2, v3, v4] (.int a :: st) I J Q = Rn S 123 73 [v0, v1, v2, v3, v4] (.int a :: .int a :: st) I J Q := rS f123_72 rfl
theorem x123_72r : Rn S 123 72 [v0, v1, v2, v3, v4] (.ref q :: st) I J Q = Rn S 123 73 [v0, v1, v2, v3, v4] (.ref q :: .ref q :: st) I J Q := rS f123_72 rfl
theorem x123_73_65 : Rn (zG xl) 123 73 [v0, v1, v2, v3, v4] (.ref 65 :: st) I J Q = Rn (zG xl) 123 76 [v0, v1, v2, v3, v4] (.int (I 65 11) :: st) I J Q := (rGf f123_73 rfl).trans (tr_and rfl)
theorem x123_76 : Rn S 123 76 [v0, v1, v2, .int a, v4] st I J Q = Rn S 123 77 [v0, v1, v2, .int a, v4] (.int a :: st) I J Q := rL f123_76 rfl rfl
theorem x123_77 : Rn S 123 77 [v0, v1, v2, v3, v4] st I J Q = Rn S 123 78 [v0, v1, v2, v3, v4] (.int 1 :: st) I J Q := rS f123_77 rfl
theorem x123_78 : Rn S 123 78 [v0, v1, v2, v3, v4] (.int b :: .int a :: st) I J Q = if a = b then Rn S 123 81 [v0, v1, v2, v3, v4] st I J Q else Rn S 123 85 [v0, v1, v2, v3, v4] st I J Q := rCne f123_78 rfl rfl
theorem x123_81 : Rn S 123 81 [v0, v1, v2, v3, v4] st I J Q = Rn S 123 82 [v0, v1, v2, v3, v4] (.int 1 :: st) I J Q := rS f123_81 rfl
theorem x123_82 : Rn S 123 82 [v0, v1, v2, v3, v4] st I J Q = Rn S 123 86 [v0, v1, v2, v3, v4] st I J Q := rB f123_82 rfl rfl rfl
theorem x123_85 : Rn S 123 85 [v0, v1, v2, v3, v4] st I J Q = Rn S 123 86 [v0, v1, v2, v3, v4] (.int 0 :: st) I J Q := rS f123_85 rfl
theorem x123_86 : Rn S 123 86 [v0, v1, v2, v3, v4] (.int b :: .int a :: st) I J Q = Rn S 123 87 [v0, v1, v2, v3, v4] (.int (a + b) :: st) I J Q := rS f123_86 rfl
theorem x123_87_65 : Rn (zG xl) 123 87 [v0, v1, v2, v3, v4] (.int a :: .ref 65 :: st) I J Q = Rn (zG xl) 123 90 [v0, v1, v2, v3, v4] st (zr I 65 (upd (I 65) 11 a)) J Q := (rPf f123_87 rfl).trans (tr_pf rfl rfl rfl)
theorem x123_90 : Rn S 123 90 [v0, v1, .int a, v3, v4] st I J Q = Rn S 123 93 [v0, zkl v1, .int (a + 1), v3, v4] st I J Q := rL f123_90 rfl rfl
theorem x123_93 : Rn S 123 93 [v0, v1, v2, v3, v4] st I J Q = Rn S 123 14 [v0, v1, v2, v3, v4] st I J Q := rB f123_93 rfl rfl rfl
theorem x123_96 : Rn S 123 96 [v0, .int a, v2, v3, v4] st I J Q = Rn S 123 97 [v0, .int a, v2, v3, v4] (.int a :: st) I J Q := rL f123_96 rfl rfl
theorem x123_97 : Rn S 123 97 [v0, v1, v2, v3, v4] (.int a :: st) I J Q = if 0 < a then Rn S 123 100 [v0, v1, v2, v3, v4] st I J Q else Rn S 123 114 [v0, v1, v2, v3, v4] st I J Q := rIle f123_97 rfl rfl
theorem x123_100 : Rn S 123 100 [v0, .int a, v2, v3, v4] st I J Q = Rn S 123 101 [v0, .int a, v2, v3, v4] (.int a :: st) I J Q := rL f123_100 rfl rfl
theorem x123_101 : Rn S 123 101 [v0, v1, v2, v3, v4] st I J Q = Rn S 123 102 [v0, v1, v2, v3, v4] (.int 3 :: st) I J Q := rS f123_101 rfl
theorem x123_102 : Rn S 123 102 [v0, v1, v2, v3, v4] (.int b :: .int a :: st) I J Q = (¬ b = 0 ∧ Rn S 123 103 [v0, v1, v2, v3, v4] (.int (a - a / b * b) :: st) I J Q) := rRi f123_102
theorem x123_103 : Rn S 123 103 [v0, v1, v2, v3, v4] st I J Q = Rn S 123 104 [v0, v1, v2, v3, v4] (.int 2 :: st) I J Q := rS f123_103 rfl
theorem x123_104 : Rn S 123 104 [v0, v1, v2, v3, v4] (.int b :: .int a :: st) I J Q = if a = b then Rn S 123 114 [v0, v1, v2, v3, v4] st I J Q else Rn S 123 107 [v0, v1, v2, v3, v4] st I J Q := rCeq f123_104 rfl rfl
theorem x123_107 : Rn S 123 107 [.ref q, v1, v2, v3, v4] st I J Q = Rn S 123 108 [.ref q, v1, v2, v3, v4] (.ref q :: st) I J Q := rL f123_107 rfl rfl
theorem x123_108 : Rn S 123 108 [v0, v1, v2, v3, v4] st I J Q = Rn S 123 109 [v0, v1, v2, v3, v4] (.int 0 :: st) I J Q := rS f123_108 rfl
theorem x123_109_65 : Rn (zG xl) 123 109 [v0, v1, v2, v3, v4] (.int a :: .ref 65 :: st) I J Q = Rn (zG xl) 123 112 [v0, v1, v2, v3, v4] st (zr I 65 (upd (I 65) 11 a)) J Q := (rPf f123_109 rfl).trans (tr_pf rfl rfl rfl)
theorem x123_112 : Rn S 123 112 [v0, .int a, v2, v3, v4] st I J Q = Rn S 123 113 [v0, .int a, v2, v3, v4] (.int a :: st) I J Q := rL f123_112 rfl rfl
theorem x123_113 : Rn S 123 113 [v0, v1, v2, v3, v4] [.int a] I J Q = Q (some (.int a)) I J := rR f123_113 rfl rfl rfl rfl rfl
theorem x123_114 : Rn S 123 114 [v0, v1, v2, v3, v4] st I J Q = Rn S 123 115 [v0, v1, v2, v3, v4] (.int (-1) :: st) I J Q := rS f123_114 rfl
theorem x123_115 : Rn S 123 115 [v0, v1, v2, v3, v4] [.int a] I J Q = Q (some (.int a)) I J := rR f123_115 rfl rfl rfl rfl rfl
/-! X6.readsText: 124 -/
theorem B124 : zB 124 = cX6_readsText := rfl
theorem f124_0 : zft 124 0 = some (.iload_n 1, 1) := fet B124 (by decide +kernel) (Or.inr rfl)
theorem f124_1 : zft 124 1 = some (.ifCond .ne 10, 3) := fet B124 (by decide +kernel) (Or.inr rfl)
theorem f124_4 : zft 124 4 = some (.aload_n 0, 1) := fet B124 (by decide +kernel) (Or.inr rfl)
theorem f124_5 : zft 124 5 = some (.invokevirtual 140, 3) := fet B124 (by decide +kernel) (Or.inr rfl)
theorem f124_8 : zft 124 8 = some (.goto 19, 3) := fet B124 (by decide +kernel) (Or.inr rfl)
theorem f124_11 : zft 124 11 = some (.iload_n 1, 1) := fet B124 (by decide +kernel) (Or.inr rfl)
theorem f124_12 : zft 124 12 = some (.iconst 1, 1) := fet B124 (by decide +kernel) (Or.inr rfl)
theorem f124_13 : zft 124 13 = some (.if_icmp .ne 10, 3) := fet B124 (by decide +kernel) (Or.inr rfl)
theorem f124_16 : zft 124 16 = some (.aload_n 0, 1) := fet B124 (by decide +kernel) (Or.inr rfl)
theorem f124_17 : zft 124 17 = some (.invokevirtual 144, 3) := fet B124 (by decide +kernel) (Or.inr rfl)
theorem f124_20 : zft 124 20 = some (.goto 7, 3) := fet B124 (by decide +kernel) (Or.inr rfl)
theorem f124_23 : zft 124 23 = some (.aload_n 0, 1) := fet B124 (by decide +kernel) (Or.inr rfl)
theorem f124_24 : zft 124 24 = some (.invokevirtual 147, 3) := fet B124 (by decide +kernel) (Or.inr rfl)
theorem f124_27 : zft 124 27 = some (.ireturn, 1) := fet B124 (by decide +kernel) (Or.inr rfl)
theorem x124_0 : Rn S 124 0 [v0, .int a] st I J Q = Rn S 124 1 [v0, .int a] (.int a :: st) I J Q := rL f124_0 rfl rfl
theorem x124_1 : Rn S 124 1 [v0, v1] (.int a :: st) I J Q = if a = 0 then Rn S 124 4 [v0, v1] st I J Q else Rn S 124 11 [v0, v1] st I J Q := rIne f124_1 rfl rfl
theorem x124_4 : Rn S 124 4 [.ref q, v1] st I J Q = Rn S 124 5 [.ref q, v1] (.ref q :: st) I J Q := rL f124_4 rfl rfl
theorem x124_5 : Rn S 124 5 [v0, v1] (.ref q :: st) I J Q = ((zcls S q = 6 ∧ zcs st ≤ 8) ∧ Rn S 119 0 [.ref q, .null, .null, .null, .null] [] I J (fun v I' J' => Rn S 124 8 [v0, v1] (v.toList ++ st) I' J' Q)) := rCV (As := []) f124_5 rfl rfl rfl rfl (Nat.le_of_ble_eq_true rfl)
theorem x124_8 : Rn S 124 8 [v0, v1] st I J Q = Rn S 124 27 [v0, v1] st I J Q := rB f124_8 rfl rfl rfl
theorem x124_11 : Rn S 124 11 [v0, .int a] st I J Q = Rn S 124 12 [v0, .int a] (.int a :: st) I J Q := rL f124_11 rfl rfl
theorem x124_12 : Rn S 124 12 [v0, v1] st I J Q = Rn S 124 13 [v0, v1] (.int 1 :: st) I J Q := rS f124_12 rfl
theorem x124_13 : Rn S 124 13 [v0, v1] (.int b :: .int a :: st) I J Q = if a = b then Rn S 124 16 [v0, v1] st I J Q else Rn S 124 23 [v0, v1] st I J Q := rCne f124_13 rfl rfl
theorem x124_16 : Rn S 124 16 [.ref q, v1] st I J Q = Rn S 124 17 [.ref q, v1] (.ref q :: st) I J Q := rL f124_16 rfl rfl
theorem x124_17 : Rn S 124 17 [v0, v1] (.ref q :: st) I J Q = ((zcls S q = 6 ∧ zcs st ≤ 8) ∧ Rn S 121 0 [.ref q, .null, .null, .null, .null] [] I J (fun v I' J' => Rn S 124 20 [v0, v1] (v.toList ++ st) I' J' Q)) := rCV (As := []) f124_17 rfl rfl rfl rfl (Nat.le_of_ble_eq_true rfl)
theorem x124_20 : Rn S 124 20 [v0, v1] st I J Q = Rn S 124 27 [v0, v1] st I J Q := rB f124_20 rfl rfl rfl
theorem x124_23 : Rn S 124 23 [.ref q, v1] st I J Q = Rn S 124 24 [.ref q, v1] (.ref q :: st) I J Q := rL f124_23 rfl rfl
theorem x124_24 : Rn S 124 24 [v0, v1] (.ref q :: st) I J Q = ((zcls S q = 6 ∧ zcs st ≤ 8) ∧ Rn S 123 0 [.ref q, .null, .null, .null, .null] [] I J (fun v I' J' => Rn S 124 27 [v0, v1] (v.toList ++ st) I' J' Q)) := rCV (As := []) f124_24 rfl rfl rfl rfl (Nat.le_of_ble_eq_true rfl)
theorem x124_27 : Rn S 124 27 [v0, v1] [.int a] I J Q = Q (some (.int a)) I J := rR f124_27 rfl rfl rfl rfl rfl
/-! X6.fault: 125 -/
theorem B125 : zB 125 = cX6_fault := rfl
theorem f125_0 : zft 125 0 = some (.iload_n 1, 1) := fet B125 (by decide +kernel) (Or.inr rfl)
theorem f125_1 : zft 125 1 = some (.invokestatic 114, 3) := fet B125 (by decide +kernel) (Or.inr rfl)
theorem f125_4 : zft 125 4 = some (.ifCond .eq 11, 3) := fet B125 (by decide +kernel) (Or.inr rfl)
theorem f125_7 : zft 125 7 = some (.aload_n 0, 1) := fet B125 (by decide +kernel) (Or.inr rfl)
theorem f125_8 : zft 125 8 = some (.iload_n 1, 1) := fet B125 (by decide +kernel) (Or.inr rfl)
theorem f125_9 : zft 125 9 = some (.invokevirtual 150, 3) := fet B125 (by decide +kernel) (Or.inr rfl)
theorem f125_12 : zft 125 12 = some (.goto 5, 3) := fet B125 (by decide +kernel) (Or.inr rfl)
theorem f125_15 : zft 125 15 = some (.bipush (-2), 2) := fet B125 (by decide +kernel) (Or.inr rfl)
theorem f125_17 : zft 125 17 = some (.ireturn, 1) := fet B125 (by decide +kernel) (Or.inr rfl)
theorem x125_0 : Rn S 125 0 [v0, .int a] st I J Q = Rn S 125 1 [v0, .int a] (.int a :: st) I J Q := rL f125_0 rfl rfl
theorem x125_1 : Rn S 125 1 [v0, v1] (.int a0 :: st) I J Q = (zcs st ≤ 8 ∧ Rn S 113 0 [.int a0] [] I J (fun v I' J' => Rn S 125 4 [v0, v1] (v.toList ++ st) I' J' Q)) := rCS (As := [.int a0]) f125_1 rfl rfl rfl rfl (Nat.le_of_ble_eq_true rfl)
theorem x125_4 : Rn S 125 4 [v0, v1] (.int a :: st) I J Q = if a = 0 then Rn S 125 15 [v0, v1] st I J Q else Rn S 125 7 [v0, v1] st I J Q := rIeq f125_4 rfl rfl
theorem x125_7 : Rn S 125 7 [.ref q, v1] st I J Q = Rn S 125 8 [.ref q, v1] (.ref q :: st) I J Q := rL f125_7 rfl rfl
theorem x125_8 : Rn S 125 8 [v0, .int a] st I J Q = Rn S 125 9 [v0, .int a] (.int a :: st) I J Q := rL f125_8 rfl rfl
theorem x125_9 : Rn S 125 9 [v0, v1] (.int a0 :: .ref q :: st) I J Q = ((zcls S q = 6 ∧ zcs st ≤ 8) ∧ Rn S 124 0 [.ref q, .int a0] [] I J (fun v I' J' => Rn S 125 12 [v0, v1] (v.toList ++ st) I' J' Q)) := rCV (As := [.int a0]) f125_9 rfl rfl rfl rfl (Nat.le_of_ble_eq_true rfl)
theorem x125_12 : Rn S 125 12 [v0, v1] st I J Q = Rn S 125 17 [v0, v1] st I J Q := rB f125_12 rfl rfl rfl
theorem x125_15 : Rn S 125 15 [v0, v1] st I J Q = Rn S 125 17 [v0, v1] (.int (-2) :: st) I J Q := rS f125_15 rfl
theorem x125_17 : Rn S 125 17 [v0, v1] [.int a] I J Q = Q (some (.int a)) I J := rR f125_17 rfl rfl rfl rfl rfl
/-! X6.isLine: 126 -/
theorem B126 : zB 126 = cX6_isLine := rfl
theorem f126_0 : zft 126 0 = some (.iload_n 1, 1) := fet B126 (by decide +kernel) (Or.inr rfl)
theorem f126_1 : zft 126 1 = some (.i2l, 1) := fet B126 (by decide +kernel) (Or.inr rfl)
theorem f126_2 : zft 126 2 = some (.lconst 0, 1) := fet B126 (by decide +kernel) (Or.inr rfl)
theorem f126_3 : zft 126 3 = some (.aload_n 0, 1) := fet B126 (by decide +kernel) (Or.inr rfl)
theorem f126_4 : zft 126 4 = some (.getfield 122, 3) := fet B126 (by decide +kernel) (Or.inr rfl)
theorem f126_7 : zft 126 7 = some (.iconst 1, 1) := fet B126 (by decide +kernel) (Or.inr rfl)
theorem f126_8 : zft 126 8 = some (.isub, 1) := fet B126 (by decide +kernel) (Or.inr rfl)
theorem f126_9 : zft 126 9 = some (.i2l, 1) := fet B126 (by decide +kernel) (Or.inr rfl)
theorem f126_10 : zft 126 10 = some (.invokestatic 86, 3) := fet B126 (by decide +kernel) (Or.inr rfl)
theorem f126_13 : zft 126 13 = some (.ireturn, 1) := fet B126 (by decide +kernel) (Or.inr rfl)
theorem x126_0 : Rn S 126 0 [v0, .int a] st I J Q = Rn S 126 1 [v0, .int a] (.int a :: st) I J Q := rL f126_0 rfl rfl
theorem x126_1 : Rn S 126 1 [v0, v1] (.int a :: st) I J Q = Rn S 126 2 [v0, v1] (.long a.toInt64 :: st) I J Q := rS f126_1 rfl
theorem x126_2 : Rn S 126 2 [v0, v1] st I J Q = Rn S 126 3 [v0, v1] (.long 0 :: st) I J Q := rS f126_2 rfl
theorem x126_3 : Rn S 126 3 [.ref q, v1] st I J Q = Rn S 126 4 [.ref q, v1] (.ref q :: st) I J Q := rL f126_3 rfl rfl
theorem x126_4_65 : Rn (zG xl) 126 4 [v0, v1] (.ref 65 :: st) I J Q = Rn (zG xl) 126 7 [v0, v1] (.int (I 65 7) :: st) I J Q := (rGf f126_4 rfl).trans (tr_and rfl)
theorem x126_7 : Rn S 126 7 [v0, v1] st I J Q = Rn S 126 8 [v0, v1] (.int 1 :: st) I J Q := rS f126_7 rfl
theorem x126_8 : Rn S 126 8 [v0, v1] (.int b :: .int a :: st) I J Q = Rn S 126 9 [v0, v1] (.int (a - b) :: st) I J Q := rS f126_8 rfl
theorem x126_9 : Rn S 126 9 [v0, v1] (.int a :: st) I J Q = Rn S 126 10 [v0, v1] (.long a.toInt64 :: st) I J Q := rS f126_9 rfl
theorem x126_10 : Rn S 126 10 [v0, v1] (.long u2 :: .long u1 :: .long u0 :: st) I J Q = (zcs st ≤ 8 ∧ Rn S 96 0 [.long u0, .null, .long u1, .null, .long u2, .null] [] I J (fun v I' J' => Rn S 126 13 [v0, v1] (v.toList ++ st) I' J' Q)) := rCS (As := [.long u0, .long u1, .long u2]) f126_10 rfl rfl rfl rfl (Nat.le_of_ble_eq_true rfl)
theorem x126_13 : Rn S 126 13 [v0, v1] [.int a] I J Q = ((a = 0 ∨ a = 1) ∧ Q (some (.int a)) I J) := rRZ f126_13 (Or.inl rfl)
/-! X6.isReader: 127 -/
theorem B127 : zB 127 = cX6_isReader := rfl
theorem f127_0 : zft 127 0 = some (.iload_n 1, 1) := fet B127 (by decide +kernel) (Or.inr rfl)
theorem f127_1 : zft 127 1 = some (.i2l, 1) := fet B127 (by decide +kernel) (Or.inr rfl)
theorem f127_2 : zft 127 2 = some (.lconst 0, 1) := fet B127 (by decide +kernel) (Or.inr rfl)
theorem f127_3 : zft 127 3 = some (.aload_n 0, 1) := fet B127 (by decide +kernel) (Or.inr rfl)
theorem f127_4 : zft 127 4 = some (.getfield 128, 3) := fet B127 (by decide +kernel) (Or.inr rfl)
theorem f127_7 : zft 127 7 = some (.iconst 1, 1) := fet B127 (by decide +kernel) (Or.inr rfl)
theorem f127_8 : zft 127 8 = some (.isub, 1) := fet B127 (by decide +kernel) (Or.inr rfl)
theorem f127_9 : zft 127 9 = some (.i2l, 1) := fet B127 (by decide +kernel) (Or.inr rfl)
theorem f127_10 : zft 127 10 = some (.invokestatic 86, 3) := fet B127 (by decide +kernel) (Or.inr rfl)
theorem f127_13 : zft 127 13 = some (.ireturn, 1) := fet B127 (by decide +kernel) (Or.inr rfl)
theorem x127_0 : Rn S 127 0 [v0, .int a] st I J Q = Rn S 127 1 [v0, .int a] (.int a :: st) I J Q := rL f127_0 rfl rfl
theorem x127_1 : Rn S 127 1 [v0, v1] (.int a :: st) I J Q = Rn S 127 2 [v0, v1] (.long a.toInt64 :: st) I J Q := rS f127_1 rfl
theorem x127_2 : Rn S 127 2 [v0, v1] st I J Q = Rn S 127 3 [v0, v1] (.long 0 :: st) I J Q := rS f127_2 rfl
theorem x127_3 : Rn S 127 3 [.ref q, v1] st I J Q = Rn S 127 4 [.ref q, v1] (.ref q :: st) I J Q := rL f127_3 rfl rfl
theorem x127_4_65 : Rn (zG xl) 127 4 [v0, v1] (.ref 65 :: st) I J Q = Rn (zG xl) 127 7 [v0, v1] (.int (I 65 9) :: st) I J Q := (rGf f127_4 rfl).trans (tr_and rfl)
theorem x127_7 : Rn S 127 7 [v0, v1] st I J Q = Rn S 127 8 [v0, v1] (.int 1 :: st) I J Q := rS f127_7 rfl
theorem x127_8 : Rn S 127 8 [v0, v1] (.int b :: .int a :: st) I J Q = Rn S 127 9 [v0, v1] (.int (a - b) :: st) I J Q := rS f127_8 rfl
theorem x127_9 : Rn S 127 9 [v0, v1] (.int a :: st) I J Q = Rn S 127 10 [v0, v1] (.long a.toInt64 :: st) I J Q := rS f127_9 rfl
theorem x127_10 : Rn S 127 10 [v0, v1] (.long u2 :: .long u1 :: .long u0 :: st) I J Q = (zcs st ≤ 8 ∧ Rn S 96 0 [.long u0, .null, .long u1, .null, .long u2, .null] [] I J (fun v I' J' => Rn S 127 13 [v0, v1] (v.toList ++ st) I' J' Q)) := rCS (As := [.long u0, .long u1, .long u2]) f127_10 rfl rfl rfl rfl (Nat.le_of_ble_eq_true rfl)
theorem x127_13 : Rn S 127 13 [v0, v1] [.int a] I J Q = ((a = 0 ∨ a = 1) ∧ Q (some (.int a)) I J) := rRZ f127_13 (Or.inl rfl)
/-! X6.isMinute: 128 -/
theorem B128 : zB 128 = cX6_isMinute := rfl
theorem f128_0 : zft 128 0 = some (.iload_n 0, 1) := fet B128 (by decide +kernel) (Or.inr rfl)
theorem f128_1 : zft 128 1 = some (.i2l, 1) := fet B128 (by decide +kernel) (Or.inr rfl)
theorem f128_2 : zft 128 2 = some (.lconst 0, 1) := fet B128 (by decide +kernel) (Or.inr rfl)
theorem f128_3 : zft 128 3 = some (.ldc2_w 153, 3) := fet B128 (by decide +kernel) (Or.inr rfl)
theorem f128_6 : zft 128 6 = some (.invokestatic 86, 3) := fet B128 (by decide +kernel) (Or.inr rfl)
theorem f128_9 : zft 128 9 = some (.ireturn, 1) := fet B128 (by decide +kernel) (Or.inr rfl)
theorem x128_0 : Rn S 128 0 [.int a] st I J Q = Rn S 128 1 [.int a] (.int a :: st) I J Q := rL f128_0 rfl rfl
theorem x128_1 : Rn S 128 1 [v0] (.int a :: st) I J Q = Rn S 128 2 [v0] (.long a.toInt64 :: st) I J Q := rS f128_1 rfl
theorem x128_2 : Rn S 128 2 [v0] st I J Q = Rn S 128 3 [v0] (.long 0 :: st) I J Q := rS f128_2 rfl
theorem x128_3 : Rn S 128 3 [v0] st I J Q = Rn S 128 6 [v0] (.long 23 :: st) I J Q := rS f128_3 rfl
theorem x128_6 : Rn S 128 6 [v0] (.long u2 :: .long u1 :: .long u0 :: st) I J Q = (zcs st ≤ 8 ∧ Rn S 96 0 [.long u0, .null, .long u1, .null, .long u2, .null] [] I J (fun v I' J' => Rn S 128 9 [v0] (v.toList ++ st) I' J' Q)) := rCS (As := [.long u0, .long u1, .long u2]) f128_6 rfl rfl rfl rfl (Nat.le_of_ble_eq_true rfl)
theorem x128_9 : Rn S 128 9 [v0] [.int a] I J Q = ((a = 0 ∨ a = 1) ∧ Q (some (.int a)) I J) := rRZ f128_9 (Or.inl rfl)
/-! X6.lineBy: 129 -/
theorem B129 : zB 129 = cX6_lineBy := rfl
theorem f129_0 : zft 129 0 = some (.iload_n 2, 1) := fet B129 (by decide +kernel) (Or.inr rfl)
theorem f129_1 : zft 129 1 = some (.iconst 2, 1) := fet B129 (by decide +kernel) (Or.inr rfl)
theorem f129_2 : zft 129 2 = some (.if_icmp .ge 16, 3) := fet B129 (by decide +kernel) (Or.inr rfl)
theorem f129_5 : zft 129 5 = some (.aload_n 0, 1) := fet B129 (by decide +kernel) (Or.inr rfl)
theorem f129_6 : zft 129 6 = some (.getfield 28, 3) := fet B129 (by decide +kernel) (Or.inr rfl)
theorem f129_9 : zft 129 9 = some (.iconst 2, 1) := fet B129 (by decide +kernel) (Or.inr rfl)
theorem f129_10 : zft 129 10 = some (.iload_n 1, 1) := fet B129 (by decide +kernel) (Or.inr rfl)
theorem f129_11 : zft 129 11 = some (.imul, 1) := fet B129 (by decide +kernel) (Or.inr rfl)
theorem f129_12 : zft 129 12 = some (.iload_n 2, 1) := fet B129 (by decide +kernel) (Or.inr rfl)
theorem f129_13 : zft 129 13 = some (.iadd, 1) := fet B129 (by decide +kernel) (Or.inr rfl)
theorem f129_14 : zft 129 14 = some (.iaload, 1) := fet B129 (by decide +kernel) (Or.inr rfl)
theorem f129_15 : zft 129 15 = some (.goto 15, 3) := fet B129 (by decide +kernel) (Or.inr rfl)
theorem f129_18 : zft 129 18 = some (.iconst 1, 1) := fet B129 (by decide +kernel) (Or.inr rfl)
theorem f129_19 : zft 129 19 = some (.iconst 2, 1) := fet B129 (by decide +kernel) (Or.inr rfl)
theorem f129_20 : zft 129 20 = some (.aload_n 0, 1) := fet B129 (by decide +kernel) (Or.inr rfl)
theorem f129_21 : zft 129 21 = some (.getfield 28, 3) := fet B129 (by decide +kernel) (Or.inr rfl)
theorem f129_24 : zft 129 24 = some (.iconst 2, 1) := fet B129 (by decide +kernel) (Or.inr rfl)
theorem f129_25 : zft 129 25 = some (.iload_n 1, 1) := fet B129 (by decide +kernel) (Or.inr rfl)
theorem f129_26 : zft 129 26 = some (.imul, 1) := fet B129 (by decide +kernel) (Or.inr rfl)
theorem f129_27 : zft 129 27 = some (.iaload, 1) := fet B129 (by decide +kernel) (Or.inr rfl)
theorem f129_28 : zft 129 28 = some (.imul, 1) := fet B129 (by decide +kernel) (Or.inr rfl)
theorem f129_29 : zft 129 29 = some (.iadd, 1) := fet B129 (by decide +kernel) (Or.inr rfl)
theorem f129_30 : zft 129 30 = some (.ireturn, 1) := fet B129 (by decide +kernel) (Or.inr rfl)
theorem x129_0 : Rn S 129 0 [v0, v1, .int a] st I J Q = Rn S 129 1 [v0, v1, .int a] (.int a :: st) I J Q := rL f129_0 rfl rfl
theorem x129_1 : Rn S 129 1 [v0, v1, v2] st I J Q = Rn S 129 2 [v0, v1, v2] (.int 2 :: st) I J Q := rS f129_1 rfl
theorem x129_2 : Rn S 129 2 [v0, v1, v2] (.int b :: .int a :: st) I J Q = if a < b then Rn S 129 5 [v0, v1, v2] st I J Q else Rn S 129 18 [v0, v1, v2] st I J Q := rCge f129_2 rfl rfl
theorem x129_5 : Rn S 129 5 [.ref q, v1, v2] st I J Q = Rn S 129 6 [.ref q, v1, v2] (.ref q :: st) I J Q := rL f129_5 rfl rfl
theorem x129_6_65 : Rn (zG xl) 129 6 [v0, v1, v2] (.ref 65 :: st) I J Q = Rn (zG xl) 129 9 [v0, v1, v2] (.ref 72 :: st) I J Q := (rGf f129_6 rfl).trans (tr_and rfl)
theorem x129_9 : Rn S 129 9 [v0, v1, v2] st I J Q = Rn S 129 10 [v0, v1, v2] (.int 2 :: st) I J Q := rS f129_9 rfl
theorem x129_10 : Rn S 129 10 [v0, .int a, v2] st I J Q = Rn S 129 11 [v0, .int a, v2] (.int a :: st) I J Q := rL f129_10 rfl rfl
theorem x129_11 : Rn S 129 11 [v0, v1, v2] (.int b :: .int a :: st) I J Q = Rn S 129 12 [v0, v1, v2] (.int (a * b) :: st) I J Q := rS f129_11 rfl
theorem x129_12 : Rn S 129 12 [v0, v1, .int a] st I J Q = Rn S 129 13 [v0, v1, .int a] (.int a :: st) I J Q := rL f129_12 rfl rfl
theorem x129_13 : Rn S 129 13 [v0, v1, v2] (.int b :: .int a :: st) I J Q = Rn S 129 14 [v0, v1, v2] (.int (a + b) :: st) I J Q := rS f129_13 rfl
theorem x129_14 : Rn S 129 14 [v0, v1, v2] (.int a :: .ref q :: st) I J Q = (zai S q a ∧ Rn S 129 15 [v0, v1, v2] (.int (I q a.toNatClampNeg) :: st) I J Q) := rIal f129_14
theorem x129_15 : Rn S 129 15 [v0, v1, v2] st I J Q = Rn S 129 30 [v0, v1, v2] st I J Q := rB f129_15 rfl rfl rfl
theorem x129_18 : Rn S 129 18 [v0, v1, v2] st I J Q = Rn S 129 19 [v0, v1, v2] (.int 1 :: st) I J Q := rS f129_18 rfl
theorem x129_19 : Rn S 129 19 [v0, v1, v2] st I J Q = Rn S 129 20 [v0, v1, v2] (.int 2 :: st) I J Q := rS f129_19 rfl
theorem x129_20 : Rn S 129 20 [.ref q, v1, v2] st I J Q = Rn S 129 21 [.ref q, v1, v2] (.ref q :: st) I J Q := rL f129_20 rfl rfl
theorem x129_21_65 : Rn (zG xl) 129 21 [v0, v1, v2] (.ref 65 :: st) I J Q = Rn (zG xl) 129 24 [v0, v1, v2] (.ref 72 :: st) I J Q := (rGf f129_21 rfl).trans (tr_and rfl)
theorem x129_24 : Rn S 129 24 [v0, v1, v2] st I J Q = Rn S 129 25 [v0, v1, v2] (.int 2 :: st) I J Q := rS f129_24 rfl
theorem x129_25 : Rn S 129 25 [v0, .int a, v2] st I J Q = Rn S 129 26 [v0, .int a, v2] (.int a :: st) I J Q := rL f129_25 rfl rfl
theorem x129_26 : Rn S 129 26 [v0, v1, v2] (.int b :: .int a :: st) I J Q = Rn S 129 27 [v0, v1, v2] (.int (a * b) :: st) I J Q := rS f129_26 rfl
theorem x129_27 : Rn S 129 27 [v0, v1, v2] (.int a :: .ref q :: st) I J Q = (zai S q a ∧ Rn S 129 28 [v0, v1, v2] (.int (I q a.toNatClampNeg) :: st) I J Q) := rIal f129_27
theorem x129_28 : Rn S 129 28 [v0, v1, v2] (.int b :: .int a :: st) I J Q = Rn S 129 29 [v0, v1, v2] (.int (a * b) :: st) I J Q := rS f129_28 rfl
theorem x129_29 : Rn S 129 29 [v0, v1, v2] (.int b :: .int a :: st) I J Q = Rn S 129 30 [v0, v1, v2] (.int (a + b) :: st) I J Q := rS f129_29 rfl
theorem x129_30 : Rn S 129 30 [v0, v1, v2] [.int a] I J Q = Q (some (.int a)) I J := rR f129_30 rfl rfl rfl rfl rfl
/-! X6.line: 130 -/
theorem B130 : zB 130 = cX6_line := rfl
theorem f130_0 : zft 130 0 = some (.aload_n 0, 1) := fet B130 (by decide +kernel) (Or.inr rfl)
theorem f130_1 : zft 130 1 = some (.invokevirtual 140, 3) := fet B130 (by decide +kernel) (Or.inr rfl)
theorem f130_4 : zft 130 4 = some (.pop, 1) := fet B130 (by decide +kernel) (Or.inr rfl)
theorem f130_5 : zft 130 5 = some (.aload_n 0, 1) := fet B130 (by decide +kernel) (Or.inr rfl)
theorem f130_6 : zft 130 6 = some (.iload_n 1, 1) := fet B130 (by decide +kernel) (Or.inr rfl)
theorem f130_7 : zft 130 7 = some (.invokevirtual 155, 3) := fet B130 (by decide +kernel) (Or.inr rfl)
theorem f130_10 : zft 130 10 = some (.ifCond .eq 24, 3) := fet B130 (by decide +kernel) (Or.inr rfl)
theorem f130_13 : zft 130 13 = some (.iload_n 2, 1) := fet B130 (by decide +kernel) (Or.inr rfl)
theorem f130_14 : zft 130 14 = some (.i2l, 1) := fet B130 (by decide +kernel) (Or.inr rfl)
theorem f130_15 : zft 130 15 = some (.lconst 0, 1) := fet B130 (by decide +kernel) (Or.inr rfl)
theorem f130_16 : zft 130 16 = some (.ldc2_w 99, 3) := fet B130 (by decide +kernel) (Or.inr rfl)
theorem f130_19 : zft 130 19 = some (.invokestatic 86, 3) := fet B130 (by decide +kernel) (Or.inr rfl)
theorem f130_22 : zft 130 22 = some (.ifCond .eq 12, 3) := fet B130 (by decide +kernel) (Or.inr rfl)
theorem f130_25 : zft 130 25 = some (.aload_n 0, 1) := fet B130 (by decide +kernel) (Or.inr rfl)
theorem f130_26 : zft 130 26 = some (.iload_n 1, 1) := fet B130 (by decide +kernel) (Or.inr rfl)
theorem f130_27 : zft 130 27 = some (.iload_n 2, 1) := fet B130 (by decide +kernel) (Or.inr rfl)
theorem f130_28 : zft 130 28 = some (.invokevirtual 158, 3) := fet B130 (by decide +kernel) (Or.inr rfl)
theorem f130_31 : zft 130 31 = some (.goto 5, 3) := fet B130 (by decide +kernel) (Or.inr rfl)
theorem f130_34 : zft 130 34 = some (.bipush (-2), 2) := fet B130 (by decide +kernel) (Or.inr rfl)
theorem f130_36 : zft 130 36 = some (.ireturn, 1) := fet B130 (by decide +kernel) (Or.inr rfl)
theorem x130_0 : Rn S 130 0 [.ref q, v1, v2] st I J Q = Rn S 130 1 [.ref q, v1, v2] (.ref q :: st) I J Q := rL f130_0 rfl rfl
theorem x130_1 : Rn S 130 1 [v0, v1, v2] (.ref q :: st) I J Q = ((zcls S q = 6 ∧ zcs st ≤ 8) ∧ Rn S 119 0 [.ref q, .null, .null, .null, .null] [] I J (fun v I' J' => Rn S 130 4 [v0, v1, v2] (v.toList ++ st) I' J' Q)) := rCV (As := []) f130_1 rfl rfl rfl rfl (Nat.le_of_ble_eq_true rfl)
theorem x130_4i : Rn S 130 4 [v0, v1, v2] (.int a :: st) I J Q = Rn S 130 5 [v0, v1, v2] st I J Q := rS f130_4 rfl
theorem x130_4r : Rn S 130 4 [v0, v1, v2] (.ref q :: st) I J Q = Rn S 130 5 [v0, v1, v2] st I J Q := rS f130_4 rfl
theorem x130_5 : Rn S 130 5 [.ref q, v1, v2] st I J Q = Rn S 130 6 [.ref q, v1, v2] (.ref q :: st) I J Q := rL f130_5 rfl rfl
theorem x130_6 : Rn S 130 6 [v0, .int a, v2] st I J Q = Rn S 130 7 [v0, .int a, v2] (.int a :: st) I J Q := rL f130_6 rfl rfl
theorem x130_7 : Rn S 130 7 [v0, v1, v2] (.int a0 :: .ref q :: st) I J Q = ((zcls S q = 6 ∧ zcs st ≤ 8) ∧ Rn S 126 0 [.ref q, .int a0] [] I J (fun v I' J' => Rn S 130 10 [v0, v1, v2] (v.toList ++ st) I' J' Q)) := rCV (As := [.int a0]) f130_7 rfl rfl rfl rfl (Nat.le_of_ble_eq_true rfl)
theorem x130_10 : Rn S 130 10 [v0, v1, v2] (.int a :: st) I J Q = if a = 0 then Rn S 130 34 [v0, v1, v2] st I J Q else Rn S 130 13 [v0, v1, v2] st I J Q := rIeq f130_10 rfl rfl
theorem x130_13 : Rn S 130 13 [v0, v1, .int a] st I J Q = Rn S 130 14 [v0, v1, .int a] (.int a :: st) I J Q := rL f130_13 rfl rfl
theorem x130_14 : Rn S 130 14 [v0, v1, v2] (.int a :: st) I J Q = Rn S 130 15 [v0, v1, v2] (.long a.toInt64 :: st) I J Q := rS f130_14 rfl
theorem x130_15 : Rn S 130 15 [v0, v1, v2] st I J Q = Rn S 130 16 [v0, v1, v2] (.long 0 :: st) I J Q := rS f130_15 rfl
theorem x130_16 : Rn S 130 16 [v0, v1, v2] st I J Q = Rn S 130 19 [v0, v1, v2] (.long 2 :: st) I J Q := rS f130_16 rfl
theorem x130_19 : Rn S 130 19 [v0, v1, v2] (.long u2 :: .long u1 :: .long u0 :: st) I J Q = (zcs st ≤ 8 ∧ Rn S 96 0 [.long u0, .null, .long u1, .null, .long u2, .null] [] I J (fun v I' J' => Rn S 130 22 [v0, v1, v2] (v.toList ++ st) I' J' Q)) := rCS (As := [.long u0, .long u1, .long u2]) f130_19 rfl rfl rfl rfl (Nat.le_of_ble_eq_true rfl)
theorem x130_22 : Rn S 130 22 [v0, v1, v2] (.int a :: st) I J Q = if a = 0 then Rn S 130 34 [v0, v1, v2] st I J Q else Rn S 130 25 [v0, v1, v2] st I J Q := rIeq f130_22 rfl rfl
theorem x130_25 : Rn S 130 25 [.ref q, v1, v2] st I J Q = Rn S 130 26 [.ref q, v1, v2] (.ref q :: st) I J Q := rL f130_25 rfl rfl
theorem x130_26 : Rn S 130 26 [v0, .int a, v2] st I J Q = Rn S 130 27 [v0, .int a, v2] (.int a :: st) I J Q := rL f130_26 rfl rfl
theorem x130_27 : Rn S 130 27 [v0, v1, .int a] st I J Q = Rn S 130 28 [v0, v1, .int a] (.int a :: st) I J Q := rL f130_27 rfl rfl
theorem x130_28 : Rn S 130 28 [v0, v1, v2] (.int a1 :: .int a0 :: .ref q :: st) I J Q = ((zcls S q = 6 ∧ zcs st ≤ 8) ∧ Rn S 129 0 [.ref q, .int a0, .int a1] [] I J (fun v I' J' => Rn S 130 31 [v0, v1, v2] (v.toList ++ st) I' J' Q)) := rCV (As := [.int a0, .int a1]) f130_28 rfl rfl rfl rfl (Nat.le_of_ble_eq_true rfl)
theorem x130_31 : Rn S 130 31 [v0, v1, v2] st I J Q = Rn S 130 36 [v0, v1, v2] st I J Q := rB f130_31 rfl rfl rfl
theorem x130_34 : Rn S 130 34 [v0, v1, v2] st I J Q = Rn S 130 36 [v0, v1, v2] (.int (-2) :: st) I J Q := rS f130_34 rfl
theorem x130_36 : Rn S 130 36 [v0, v1, v2] [.int a] I J Q = Q (some (.int a)) I J := rR f130_36 rfl rfl rfl rfl rfl
/-! X6.reader: 131 -/
theorem B131 : zB 131 = cX6_reader := rfl
theorem f131_0 : zft 131 0 = some (.aload_n 0, 1) := fet B131 (by decide +kernel) (Or.inr rfl)
theorem f131_1 : zft 131 1 = some (.invokevirtual 144, 3) := fet B131 (by decide +kernel) (Or.inr rfl)
theorem f131_4 : zft 131 4 = some (.pop, 1) := fet B131 (by decide +kernel) (Or.inr rfl)
theorem f131_5 : zft 131 5 = some (.aload_n 0, 1) := fet B131 (by decide +kernel) (Or.inr rfl)
theorem f131_6 : zft 131 6 = some (.iload_n 1, 1) := fet B131 (by decide +kernel) (Or.inr rfl)
theorem f131_7 : zft 131 7 = some (.invokevirtual 161, 3) := fet B131 (by decide +kernel) (Or.inr rfl)
theorem f131_10 : zft 131 10 = some (.ifCond .eq 23, 3) := fet B131 (by decide +kernel) (Or.inr rfl)
theorem f131_13 : zft 131 13 = some (.iload_n 2, 1) := fet B131 (by decide +kernel) (Or.inr rfl)
theorem f131_14 : zft 131 14 = some (.invokestatic 164, 3) := fet B131 (by decide +kernel) (Or.inr rfl)
theorem f131_17 : zft 131 17 = some (.ifCond .eq 16, 3) := fet B131 (by decide +kernel) (Or.inr rfl)
theorem f131_20 : zft 131 20 = some (.aload_n 0, 1) := fet B131 (by decide +kernel) (Or.inr rfl)
theorem f131_21 : zft 131 21 = some (.getfield 31, 3) := fet B131 (by decide +kernel) (Or.inr rfl)
theorem f131_24 : zft 131 24 = some (.iconst 2, 1) := fet B131 (by decide +kernel) (Or.inr rfl)
theorem f131_25 : zft 131 25 = some (.iload_n 1, 1) := fet B131 (by decide +kernel) (Or.inr rfl)
theorem f131_26 : zft 131 26 = some (.imul, 1) := fet B131 (by decide +kernel) (Or.inr rfl)
theorem f131_27 : zft 131 27 = some (.iload_n 2, 1) := fet B131 (by decide +kernel) (Or.inr rfl)
theorem f131_28 : zft 131 28 = some (.iadd, 1) := fet B131 (by decide +kernel) (Or.inr rfl)
theorem f131_29 : zft 131 29 = some (.iaload, 1) := fet B131 (by decide +kernel) (Or.inr rfl)
theorem f131_30 : zft 131 30 = some (.goto 5, 3) := fet B131 (by decide +kernel) (Or.inr rfl)
theorem f131_33 : zft 131 33 = some (.bipush (-2), 2) := fet B131 (by decide +kernel) (Or.inr rfl)
theorem f131_35 : zft 131 35 = some (.ireturn, 1) := fet B131 (by decide +kernel) (Or.inr rfl)
theorem x131_0 : Rn S 131 0 [.ref q, v1, v2] st I J Q = Rn S 131 1 [.ref q, v1, v2] (.ref q :: st) I J Q := rL f131_0 rfl rfl
theorem x131_1 : Rn S 131 1 [v0, v1, v2] (.ref q :: st) I J Q = ((zcls S q = 6 ∧ zcs st ≤ 8) ∧ Rn S 121 0 [.ref q, .null, .null, .null, .null] [] I J (fun v I' J' => Rn S 131 4 [v0, v1, v2] (v.toList ++ st) I' J' Q)) := rCV (As := []) f131_1 rfl rfl rfl rfl (Nat.le_of_ble_eq_true rfl)
theorem x131_4i : Rn S 131 4 [v0, v1, v2] (.int a :: st) I J Q = Rn S 131 5 [v0, v1, v2] st I J Q := rS f131_4 rfl
theorem x131_4r : Rn S 131 4 [v0, v1, v2] (.ref q :: st) I J Q = Rn S 131 5 [v0, v1, v2] st I J Q := rS f131_4 rfl
theorem x131_5 : Rn S 131 5 [.ref q, v1, v2] st I J Q = Rn S 131 6 [.ref q, v1, v2] (.ref q :: st) I J Q := rL f131_5 rfl rfl
theorem x131_6 : Rn S 131 6 [v0, .int a, v2] st I J Q = Rn S 131 7 [v0, .int a, v2] (.int a :: st) I J Q := rL f131_6 rfl rfl
theorem x131_7 : Rn S 131 7 [v0, v1, v2] (.int a0 :: .ref q :: st) I J Q = ((zcls S q = 6 ∧ zcs st ≤ 8) ∧ Rn S 127 0 [.ref q, .int a0] [] I J (fun v I' J' => Rn S 131 10 [v0, v1, v2] (v.toList ++ st) I' J' Q)) := rCV (As := [.int a0]) f131_7 rfl rfl rfl rfl (Nat.le_of_ble_eq_true rfl)
theorem x131_10 : Rn S 131 10 [v0, v1, v2] (.int a :: st) I J Q = if a = 0 then Rn S 131 33 [v0, v1, v2] st I J Q else Rn S 131 13 [v0, v1, v2] st I J Q := rIeq f131_10 rfl rfl
theorem x131_13 : Rn S 131 13 [v0, v1, .int a] st I J Q = Rn S 131 14 [v0, v1, .int a] (.int a :: st) I J Q := rL f131_13 rfl rfl
theorem x131_14 : Rn S 131 14 [v0, v1, v2] (.int a0 :: st) I J Q = (zcs st ≤ 8 ∧ Rn S 98 0 [.int a0] [] I J (fun v I' J' => Rn S 131 17 [v0, v1, v2] (v.toList ++ st) I' J' Q)) := rCS (As := [.int a0]) f131_14 rfl rfl rfl rfl (Nat.le_of_ble_eq_true rfl)
theorem x131_17 : Rn S 131 17 [v0, v1, v2] (.int a :: st) I J Q = if a = 0 then Rn S 131 33 [v0, v1, v2] st I J Q else Rn S 131 20 [v0, v1, v2] st I J Q := rIeq f131_17 rfl rfl
theorem x131_20 : Rn S 131 20 [.ref q, v1, v2] st I J Q = Rn S 131 21 [.ref q, v1, v2] (.ref q :: st) I J Q := rL f131_20 rfl rfl
theorem x131_21_65 : Rn (zG xl) 131 21 [v0, v1, v2] (.ref 65 :: st) I J Q = Rn (zG xl) 131 24 [v0, v1, v2] (.ref 73 :: st) I J Q := (rGf f131_21 rfl).trans (tr_and rfl)
theorem x131_24 : Rn S 131 24 [v0, v1, v2] st I J Q = Rn S 131 25 [v0, v1, v2] (.int 2 :: st) I J Q := rS f131_24 rfl
theorem x131_25 : Rn S 131 25 [v0, .int a, v2] st I J Q = Rn S 131 26 [v0, .int a, v2] (.int a :: st) I J Q := rL f131_25 rfl rfl
theorem x131_26 : Rn S 131 26 [v0, v1, v2] (.int b :: .int a :: st) I J Q = Rn S 131 27 [v0, v1, v2] (.int (a * b) :: st) I J Q := rS f131_26 rfl
theorem x131_27 : Rn S 131 27 [v0, v1, .int a] st I J Q = Rn S 131 28 [v0, v1, .int a] (.int a :: st) I J Q := rL f131_27 rfl rfl
theorem x131_28 : Rn S 131 28 [v0, v1, v2] (.int b :: .int a :: st) I J Q = Rn S 131 29 [v0, v1, v2] (.int (a + b) :: st) I J Q := rS f131_28 rfl
theorem x131_29 : Rn S 131 29 [v0, v1, v2] (.int a :: .ref q :: st) I J Q = (zai S q a ∧ Rn S 131 30 [v0, v1, v2] (.int (I q a.toNatClampNeg) :: st) I J Q) := rIal f131_29
theorem x131_30 : Rn S 131 30 [v0, v1, v2] st I J Q = Rn S 131 35 [v0, v1, v2] st I J Q := rB f131_30 rfl rfl rfl
theorem x131_33 : Rn S 131 33 [v0, v1, v2] st I J Q = Rn S 131 35 [v0, v1, v2] (.int (-2) :: st) I J Q := rS f131_33 rfl
theorem x131_35 : Rn S 131 35 [v0, v1, v2] [.int a] I J Q = Q (some (.int a)) I J := rR f131_35 rfl rfl rfl rfl rfl
/-! X6.shiftBy: 132 -/
theorem B132 : zB 132 = cX6_shiftBy := rfl
theorem f132_0 : zft 132 0 = some (.iload_n 1, 1) := fet B132 (by decide +kernel) (Or.inr rfl)
theorem f132_1 : zft 132 1 = some (.aload_n 0, 1) := fet B132 (by decide +kernel) (Or.inr rfl)
theorem f132_2 : zft 132 2 = some (.getfield 134, 3) := fet B132 (by decide +kernel) (Or.inr rfl)
theorem f132_5 : zft 132 5 = some (.if_icmp .ge 16, 3) := fet B132 (by decide +kernel) (Or.inr rfl)
theorem f132_8 : zft 132 8 = some (.aload_n 0, 1) := fet B132 (by decide +kernel) (Or.inr rfl)
theorem f132_9 : zft 132 9 = some (.getfield 34, 3) := fet B132 (by decide +kernel) (Or.inr rfl)
theorem f132_12 : zft 132 12 = some (.iconst 2, 1) := fet B132 (by decide +kernel) (Or.inr rfl)
theorem f132_13 : zft 132 13 = some (.iload_n 1, 1) := fet B132 (by decide +kernel) (Or.inr rfl)
theorem f132_14 : zft 132 14 = some (.imul, 1) := fet B132 (by decide +kernel) (Or.inr rfl)
theorem f132_15 : zft 132 15 = some (.iload_n 2, 1) := fet B132 (by decide +kernel) (Or.inr rfl)
theorem f132_16 : zft 132 16 = some (.iadd, 1) := fet B132 (by decide +kernel) (Or.inr rfl)
theorem f132_17 : zft 132 17 = some (.iaload, 1) := fet B132 (by decide +kernel) (Or.inr rfl)
theorem f132_18 : zft 132 18 = some (.goto 4, 3) := fet B132 (by decide +kernel) (Or.inr rfl)
theorem f132_21 : zft 132 21 = some (.iconst (-1), 1) := fet B132 (by decide +kernel) (Or.inr rfl)
theorem f132_22 : zft 132 22 = some (.ireturn, 1) := fet B132 (by decide +kernel) (Or.inr rfl)
theorem x132_0 : Rn S 132 0 [v0, .int a, v2] st I J Q = Rn S 132 1 [v0, .int a, v2] (.int a :: st) I J Q := rL f132_0 rfl rfl
theorem x132_1 : Rn S 132 1 [.ref q, v1, v2] st I J Q = Rn S 132 2 [.ref q, v1, v2] (.ref q :: st) I J Q := rL f132_1 rfl rfl
theorem x132_2_65 : Rn (zG xl) 132 2 [v0, v1, v2] (.ref 65 :: st) I J Q = Rn (zG xl) 132 5 [v0, v1, v2] (.int (I 65 11) :: st) I J Q := (rGf f132_2 rfl).trans (tr_and rfl)
theorem x132_5 : Rn S 132 5 [v0, v1, v2] (.int b :: .int a :: st) I J Q = if a < b then Rn S 132 8 [v0, v1, v2] st I J Q else Rn S 132 21 [v0, v1, v2] st I J Q := rCge f132_5 rfl rfl
theorem x132_8 : Rn S 132 8 [.ref q, v1, v2] st I J Q = Rn S 132 9 [.ref q, v1, v2] (.ref q :: st) I J Q := rL f132_8 rfl rfl
theorem x132_9_65 : Rn (zG xl) 132 9 [v0, v1, v2] (.ref 65 :: st) I J Q = Rn (zG xl) 132 12 [v0, v1, v2] (.ref 74 :: st) I J Q := (rGf f132_9 rfl).trans (tr_and rfl)
theorem x132_12 : Rn S 132 12 [v0, v1, v2] st I J Q = Rn S 132 13 [v0, v1, v2] (.int 2 :: st) I J Q := rS f132_12 rfl
theorem x132_13 : Rn S 132 13 [v0, .int a, v2] st I J Q = Rn S 132 14 [v0, .int a, v2] (.int a :: st) I J Q := rL f132_13 rfl rfl
theorem x132_14 : Rn S 132 14 [v0, v1, v2] (.int b :: .int a :: st) I J Q = Rn S 132 15 [v0, v1, v2] (.int (a * b) :: st) I J Q := rS f132_14 rfl
theorem x132_15 : Rn S 132 15 [v0, v1, .int a] st I J Q = Rn S 132 16 [v0, v1, .int a] (.int a :: st) I J Q := rL f132_15 rfl rfl
theorem x132_16 : Rn S 132 16 [v0, v1, v2] (.int b :: .int a :: st) I J Q = Rn S 132 17 [v0, v1, v2] (.int (a + b) :: st) I J Q := rS f132_16 rfl
theorem x132_17 : Rn S 132 17 [v0, v1, v2] (.int a :: .ref q :: st) I J Q = (zai S q a ∧ Rn S 132 18 [v0, v1, v2] (.int (I q a.toNatClampNeg) :: st) I J Q) := rIal f132_17
theorem x132_18 : Rn S 132 18 [v0, v1, v2] st I J Q = Rn S 132 22 [v0, v1, v2] st I J Q := rB f132_18 rfl rfl rfl
theorem x132_21 : Rn S 132 21 [v0, v1, v2] st I J Q = Rn S 132 22 [v0, v1, v2] (.int (-1) :: st) I J Q := rS f132_21 rfl
theorem x132_22 : Rn S 132 22 [v0, v1, v2] [.int a] I J Q = Q (some (.int a)) I J := rR f132_22 rfl rfl rfl rfl rfl
/-! X6.shift: 133 -/
theorem B133 : zB 133 = cX6_shift := rfl
theorem f133_0 : zft 133 0 = some (.aload_n 0, 1) := fet B133 (by decide +kernel) (Or.inr rfl)
theorem f133_1 : zft 133 1 = some (.invokevirtual 147, 3) := fet B133 (by decide +kernel) (Or.inr rfl)
theorem f133_4 : zft 133 4 = some (.pop, 1) := fet B133 (by decide +kernel) (Or.inr rfl)
theorem f133_5 : zft 133 5 = some (.iload_n 1, 1) := fet B133 (by decide +kernel) (Or.inr rfl)
theorem f133_6 : zft 133 6 = some (.i2l, 1) := fet B133 (by decide +kernel) (Or.inr rfl)
theorem f133_7 : zft 133 7 = some (.lconst 0, 1) := fet B133 (by decide +kernel) (Or.inr rfl)
theorem f133_8 : zft 133 8 = some (.ldc2_w 167, 3) := fet B133 (by decide +kernel) (Or.inr rfl)
theorem f133_11 : zft 133 11 = some (.invokestatic 86, 3) := fet B133 (by decide +kernel) (Or.inr rfl)
theorem f133_14 : zft 133 14 = some (.ifCond .eq 19, 3) := fet B133 (by decide +kernel) (Or.inr rfl)
theorem f133_17 : zft 133 17 = some (.iload_n 2, 1) := fet B133 (by decide +kernel) (Or.inr rfl)
theorem f133_18 : zft 133 18 = some (.invokestatic 164, 3) := fet B133 (by decide +kernel) (Or.inr rfl)
theorem f133_21 : zft 133 21 = some (.ifCond .eq 12, 3) := fet B133 (by decide +kernel) (Or.inr rfl)
theorem f133_24 : zft 133 24 = some (.aload_n 0, 1) := fet B133 (by decide +kernel) (Or.inr rfl)
theorem f133_25 : zft 133 25 = some (.iload_n 1, 1) := fet B133 (by decide +kernel) (Or.inr rfl)
theorem f133_26 : zft 133 26 = some (.iload_n 2, 1) := fet B133 (by decide +kernel) (Or.inr rfl)
theorem f133_27 : zft 133 27 = some (.invokevirtual 169, 3) := fet B133 (by decide +kernel) (Or.inr rfl)
theorem f133_30 : zft 133 30 = some (.goto 5, 3) := fet B133 (by decide +kernel) (Or.inr rfl)
theorem f133_33 : zft 133 33 = some (.bipush (-2), 2) := fet B133 (by decide +kernel) (Or.inr rfl)
theorem f133_35 : zft 133 35 = some (.ireturn, 1) := fet B133 (by decide +kernel) (Or.inr rfl)
theorem x133_0 : Rn S 133 0 [.ref q, v1, v2] st I J Q = Rn S 133 1 [.ref q, v1, v2] (.ref q :: st) I J Q := rL f133_0 rfl rfl
theorem x133_1 : Rn S 133 1 [v0, v1, v2] (.ref q :: st) I J Q = ((zcls S q = 6 ∧ zcs st ≤ 8) ∧ Rn S 123 0 [.ref q, .null, .null, .null, .null] [] I J (fun v I' J' => Rn S 133 4 [v0, v1, v2] (v.toList ++ st) I' J' Q)) := rCV (As := []) f133_1 rfl rfl rfl rfl (Nat.le_of_ble_eq_true rfl)
theorem x133_4i : Rn S 133 4 [v0, v1, v2] (.int a :: st) I J Q = Rn S 133 5 [v0, v1, v2] st I J Q := rS f133_4 rfl
theorem x133_4r : Rn S 133 4 [v0, v1, v2] (.ref q :: st) I J Q = Rn S 133 5 [v0, v1, v2] st I J Q := rS f133_4 rfl
theorem x133_5 : Rn S 133 5 [v0, .int a, v2] st I J Q = Rn S 133 6 [v0, .int a, v2] (.int a :: st) I J Q := rL f133_5 rfl rfl
theorem x133_6 : Rn S 133 6 [v0, v1, v2] (.int a :: st) I J Q = Rn S 133 7 [v0, v1, v2] (.long a.toInt64 :: st) I J Q := rS f133_6 rfl
theorem x133_7 : Rn S 133 7 [v0, v1, v2] st I J Q = Rn S 133 8 [v0, v1, v2] (.long 0 :: st) I J Q := rS f133_7 rfl
theorem x133_8 : Rn S 133 8 [v0, v1, v2] st I J Q = Rn S 133 11 [v0, v1, v2] (.long 15 :: st) I J Q := rS f133_8 rfl
theorem x133_11 : Rn S 133 11 [v0, v1, v2] (.long u2 :: .long u1 :: .long u0 :: st) I J Q = (zcs st ≤ 8 ∧ Rn S 96 0 [.long u0, .null, .long u1, .null, .long u2, .null] [] I J (fun v I' J' => Rn S 133 14 [v0, v1, v2] (v.toList ++ st) I' J' Q)) := rCS (As := [.long u0, .long u1, .long u2]) f133_11 rfl rfl rfl rfl (Nat.le_of_ble_eq_true rfl)
theorem x133_14 : Rn S 133 14 [v0, v1, v2] (.int a :: st) I J Q = if a = 0 then Rn S 133 33 [v0, v1, v2] st I J Q else Rn S 133 17 [v0, v1, v2] st I J Q := rIeq f133_14 rfl rfl
theorem x133_17 : Rn S 133 17 [v0, v1, .int a] st I J Q = Rn S 133 18 [v0, v1, .int a] (.int a :: st) I J Q := rL f133_17 rfl rfl
theorem x133_18 : Rn S 133 18 [v0, v1, v2] (.int a0 :: st) I J Q = (zcs st ≤ 8 ∧ Rn S 98 0 [.int a0] [] I J (fun v I' J' => Rn S 133 21 [v0, v1, v2] (v.toList ++ st) I' J' Q)) := rCS (As := [.int a0]) f133_18 rfl rfl rfl rfl (Nat.le_of_ble_eq_true rfl)
theorem x133_21 : Rn S 133 21 [v0, v1, v2] (.int a :: st) I J Q = if a = 0 then Rn S 133 33 [v0, v1, v2] st I J Q else Rn S 133 24 [v0, v1, v2] st I J Q := rIeq f133_21 rfl rfl
theorem x133_24 : Rn S 133 24 [.ref q, v1, v2] st I J Q = Rn S 133 25 [.ref q, v1, v2] (.ref q :: st) I J Q := rL f133_24 rfl rfl
theorem x133_25 : Rn S 133 25 [v0, .int a, v2] st I J Q = Rn S 133 26 [v0, .int a, v2] (.int a :: st) I J Q := rL f133_25 rfl rfl
theorem x133_26 : Rn S 133 26 [v0, v1, .int a] st I J Q = Rn S 133 27 [v0, v1, .int a] (.int a :: st) I J Q := rL f133_26 rfl rfl
theorem x133_27 : Rn S 133 27 [v0, v1, v2] (.int a1 :: .int a0 :: .ref q :: st) I J Q = ((zcls S q = 6 ∧ zcs st ≤ 8) ∧ Rn S 132 0 [.ref q, .int a0, .int a1] [] I J (fun v I' J' => Rn S 133 30 [v0, v1, v2] (v.toList ++ st) I' J' Q)) := rCV (As := [.int a0, .int a1]) f133_27 rfl rfl rfl rfl (Nat.le_of_ble_eq_true rfl)
theorem x133_30 : Rn S 133 30 [v0, v1, v2] st I J Q = Rn S 133 35 [v0, v1, v2] st I J Q := rB f133_30 rfl rfl rfl
theorem x133_33 : Rn S 133 33 [v0, v1, v2] st I J Q = Rn S 133 35 [v0, v1, v2] (.int (-2) :: st) I J Q := rS f133_33 rfl
theorem x133_35 : Rn S 133 35 [v0, v1, v2] [.int a] I J Q = Q (some (.int a)) I J := rR f133_35 rfl rfl rfl rfl rfl
/-! X6.limit: 134 -/
theorem B134 : zB 134 = cX6_limit := rfl
theorem f134_0 : zft 134 0 = some (.iload_n 1, 1) := fet B134 (by decide +kernel) (Or.inr rfl)
theorem f134_1 : zft 134 1 = some (.i2l, 1) := fet B134 (by decide +kernel) (Or.inr rfl)
theorem f134_2 : zft 134 2 = some (.lconst 1, 1) := fet B134 (by decide +kernel) (Or.inr rfl)
theorem f134_3 : zft 134 3 = some (.ldc2_w 172, 3) := fet B134 (by decide +kernel) (Or.inr rfl)
theorem f134_6 : zft 134 6 = some (.invokestatic 86, 3) := fet B134 (by decide +kernel) (Or.inr rfl)
theorem f134_9 : zft 134 9 = some (.ifCond .ne 6, 3) := fet B134 (by decide +kernel) (Or.inr rfl)
theorem f134_12 : zft 134 12 = some (.bipush (-2), 2) := fet B134 (by decide +kernel) (Or.inr rfl)
theorem f134_14 : zft 134 14 = some (.ireturn, 1) := fet B134 (by decide +kernel) (Or.inr rfl)
theorem f134_15 : zft 134 15 = some (.aload_n 0, 1) := fet B134 (by decide +kernel) (Or.inr rfl)
theorem f134_16 : zft 134 16 = some (.getfield 80, 3) := fet B134 (by decide +kernel) (Or.inr rfl)
theorem f134_19 : zft 134 19 = some (.istore_n 2, 1) := fet B134 (by decide +kernel) (Or.inr rfl)
theorem f134_20 : zft 134 20 = some (.aload_n 0, 1) := fet B134 (by decide +kernel) (Or.inr rfl)
theorem f134_21 : zft 134 21 = some (.iload_n 1, 1) := fet B134 (by decide +kernel) (Or.inr rfl)
theorem f134_22 : zft 134 22 = some (.putfield 80, 3) := fet B134 (by decide +kernel) (Or.inr rfl)
theorem f134_25 : zft 134 25 = some (.iload_n 2, 1) := fet B134 (by decide +kernel) (Or.inr rfl)
theorem f134_26 : zft 134 26 = some (.ireturn, 1) := fet B134 (by decide +kernel) (Or.inr rfl)
theorem x134_0 : Rn S 134 0 [v0, .int a, v2] st I J Q = Rn S 134 1 [v0, .int a, v2] (.int a :: st) I J Q := rL f134_0 rfl rfl
theorem x134_1 : Rn S 134 1 [v0, v1, v2] (.int a :: st) I J Q = Rn S 134 2 [v0, v1, v2] (.long a.toInt64 :: st) I J Q := rS f134_1 rfl
theorem x134_2 : Rn S 134 2 [v0, v1, v2] st I J Q = Rn S 134 3 [v0, v1, v2] (.long 1 :: st) I J Q := rS f134_2 rfl
theorem x134_3 : Rn S 134 3 [v0, v1, v2] st I J Q = Rn S 134 6 [v0, v1, v2] (.long 24 :: st) I J Q := rS f134_3 rfl
theorem x134_6 : Rn S 134 6 [v0, v1, v2] (.long u2 :: .long u1 :: .long u0 :: st) I J Q = (zcs st ≤ 8 ∧ Rn S 96 0 [.long u0, .null, .long u1, .null, .long u2, .null] [] I J (fun v I' J' => Rn S 134 9 [v0, v1, v2] (v.toList ++ st) I' J' Q)) := rCS (As := [.long u0, .long u1, .long u2]) f134_6 rfl rfl rfl rfl (Nat.le_of_ble_eq_true rfl)
theorem x134_9 : Rn S 134 9 [v0, v1, v2] (.int a :: st) I J Q = if a = 0 then Rn S 134 12 [v0, v1, v2] st I J Q else Rn S 134 15 [v0, v1, v2] st I J Q := rIne f134_9 rfl rfl
theorem x134_12 : Rn S 134 12 [v0, v1, v2] st I J Q = Rn S 134 14 [v0, v1, v2] (.int (-2) :: st) I J Q := rS f134_12 rfl
theorem x134_14 : Rn S 134 14 [v0, v1, v2] [.int a] I J Q = Q (some (.int a)) I J := rR f134_14 rfl rfl rfl rfl rfl
theorem x134_15 : Rn S 134 15 [.ref q, v1, v2] st I J Q = Rn S 134 16 [.ref q, v1, v2] (.ref q :: st) I J Q := rL f134_15 rfl rfl
theorem x134_16_65 : Rn (zG xl) 134 16 [v0, v1, v2] (.ref 65 :: st) I J Q = Rn (zG xl) 134 19 [v0, v1, v2] (.int (I 65 13) :: st) I J Q := (rGf f134_16 rfl).trans (tr_and rfl)
theorem x134_19 : Rn S 134 19 [v0, v1, v2] (.int a :: st) I J Q = Rn S 134 20 [v0, zkl v1, .int a] st I J Q := rL f134_19 rfl rfl
theorem x134_20 : Rn S 134 20 [.ref q, v1, v2] st I J Q = Rn S 134 21 [.ref q, v1, v2] (.ref q :: st) I J Q := rL f134_20 rfl rfl
theorem x134_21 : Rn S 134 21 [v0, .int a, v2] st I J Q = Rn S 134 22 [v0, .int a, v2] (.int a :: st) I J Q := rL f134_21 rfl rfl
theorem x134_22_65 : Rn (zG xl) 134 22 [v0, v1, v2] (.int a :: .ref 65 :: st) I J Q = Rn (zG xl) 134 25 [v0, v1, v2] st (zr I 65 (upd (I 65) 13 a)) J Q := (rPf f134_22 rfl).trans (tr_pf rfl rfl rfl)
theorem x134_25 : Rn S 134 25 [v0, v1, .int a] st I J Q = Rn S 134 26 [v0, v1, .int a] (.int a :: st) I J Q := rL f134_25 rfl rfl
theorem x134_26 : Rn S 134 26 [v0, v1, v2] [.int a] I J Q = Q (some (.int a)) I J := rR f134_26 rfl rfl rfl rfl rfl
/-! X6.event: 135 -/
theorem B135 : zB 135 = cX6_event := rfl
theorem f135_0 : zft 135 0 = some (.iload_n 1, 1) := fet B135 (by decide +kernel) (Or.inr rfl)
theorem f135_1 : zft 135 1 = some (.invokestatic 164, 3) := fet B135 (by decide +kernel) (Or.inr rfl)
theorem f135_4 : zft 135 4 = some (.ifCond .eq 22, 3) := fet B135 (by decide +kernel) (Or.inr rfl)
theorem f135_7 : zft 135 7 = some (.iload_n 2, 1) := fet B135 (by decide +kernel) (Or.inr rfl)
theorem f135_8 : zft 135 8 = some (.i2l, 1) := fet B135 (by decide +kernel) (Or.inr rfl)
theorem f135_9 : zft 135 9 = some (.lconst 0, 1) := fet B135 (by decide +kernel) (Or.inr rfl)
theorem f135_10 : zft 135 10 = some (.ldc2_w 174, 3) := fet B135 (by decide +kernel) (Or.inr rfl)
theorem f135_13 : zft 135 13 = some (.invokestatic 86, 3) := fet B135 (by decide +kernel) (Or.inr rfl)
theorem f135_16 : zft 135 16 = some (.ifCond .eq 10, 3) := fet B135 (by decide +kernel) (Or.inr rfl)
theorem f135_19 : zft 135 19 = some (.iload_n 3, 1) := fet B135 (by decide +kernel) (Or.inr rfl)
theorem f135_20 : zft 135 20 = some (.invokestatic 176, 3) := fet B135 (by decide +kernel) (Or.inr rfl)
theorem f135_23 : zft 135 23 = some (.ifCond .ne 6, 3) := fet B135 (by decide +kernel) (Or.inr rfl)
theorem f135_26 : zft 135 26 = some (.bipush (-2), 2) := fet B135 (by decide +kernel) (Or.inr rfl)
theorem f135_28 : zft 135 28 = some (.ireturn, 1) := fet B135 (by decide +kernel) (Or.inr rfl)
theorem f135_29 : zft 135 29 = some (.aload_n 0, 1) := fet B135 (by decide +kernel) (Or.inr rfl)
theorem f135_30 : zft 135 30 = some (.getfield 179, 3) := fet B135 (by decide +kernel) (Or.inr rfl)
theorem f135_33 : zft 135 33 = some (.bipush 8, 2) := fet B135 (by decide +kernel) (Or.inr rfl)
theorem f135_35 : zft 135 35 = some (.if_icmp .ne 6, 3) := fet B135 (by decide +kernel) (Or.inr rfl)
theorem f135_38 : zft 135 38 = some (.bipush (-4), 2) := fet B135 (by decide +kernel) (Or.inr rfl)
theorem f135_40 : zft 135 40 = some (.ireturn, 1) := fet B135 (by decide +kernel) (Or.inr rfl)
theorem f135_41 : zft 135 41 = some (.aload_n 0, 1) := fet B135 (by decide +kernel) (Or.inr rfl)
theorem f135_42 : zft 135 42 = some (.getfield 37, 3) := fet B135 (by decide +kernel) (Or.inr rfl)
theorem f135_45 : zft 135 45 = some (.iconst 3, 1) := fet B135 (by decide +kernel) (Or.inr rfl)
theorem f135_46 : zft 135 46 = some (.aload_n 0, 1) := fet B135 (by decide +kernel) (Or.inr rfl)
theorem f135_47 : zft 135 47 = some (.getfield 179, 3) := fet B135 (by decide +kernel) (Or.inr rfl)
theorem f135_50 : zft 135 50 = some (.imul, 1) := fet B135 (by decide +kernel) (Or.inr rfl)
theorem f135_51 : zft 135 51 = some (.iload_n 1, 1) := fet B135 (by decide +kernel) (Or.inr rfl)
theorem f135_52 : zft 135 52 = some (.iastore, 1) := fet B135 (by decide +kernel) (Or.inr rfl)
theorem f135_53 : zft 135 53 = some (.aload_n 0, 1) := fet B135 (by decide +kernel) (Or.inr rfl)
theorem f135_54 : zft 135 54 = some (.getfield 37, 3) := fet B135 (by decide +kernel) (Or.inr rfl)
theorem f135_57 : zft 135 57 = some (.iconst 3, 1) := fet B135 (by decide +kernel) (Or.inr rfl)
theorem f135_58 : zft 135 58 = some (.aload_n 0, 1) := fet B135 (by decide +kernel) (Or.inr rfl)
theorem f135_59 : zft 135 59 = some (.getfield 179, 3) := fet B135 (by decide +kernel) (Or.inr rfl)
theorem f135_62 : zft 135 62 = some (.imul, 1) := fet B135 (by decide +kernel) (Or.inr rfl)
theorem f135_63 : zft 135 63 = some (.iconst 1, 1) := fet B135 (by decide +kernel) (Or.inr rfl)
theorem f135_64 : zft 135 64 = some (.iadd, 1) := fet B135 (by decide +kernel) (Or.inr rfl)
theorem f135_65 : zft 135 65 = some (.iload_n 2, 1) := fet B135 (by decide +kernel) (Or.inr rfl)
theorem f135_66 : zft 135 66 = some (.iastore, 1) := fet B135 (by decide +kernel) (Or.inr rfl)
theorem f135_67 : zft 135 67 = some (.aload_n 0, 1) := fet B135 (by decide +kernel) (Or.inr rfl)
theorem f135_68 : zft 135 68 = some (.getfield 37, 3) := fet B135 (by decide +kernel) (Or.inr rfl)
theorem f135_71 : zft 135 71 = some (.iconst 3, 1) := fet B135 (by decide +kernel) (Or.inr rfl)
theorem f135_72 : zft 135 72 = some (.aload_n 0, 1) := fet B135 (by decide +kernel) (Or.inr rfl)
theorem f135_73 : zft 135 73 = some (.getfield 179, 3) := fet B135 (by decide +kernel) (Or.inr rfl)
theorem f135_76 : zft 135 76 = some (.imul, 1) := fet B135 (by decide +kernel) (Or.inr rfl)
theorem f135_77 : zft 135 77 = some (.iconst 2, 1) := fet B135 (by decide +kernel) (Or.inr rfl)
theorem f135_78 : zft 135 78 = some (.iadd, 1) := fet B135 (by decide +kernel) (Or.inr rfl)
theorem f135_79 : zft 135 79 = some (.iload_n 3, 1) := fet B135 (by decide +kernel) (Or.inr rfl)
theorem f135_80 : zft 135 80 = some (.iastore, 1) := fet B135 (by decide +kernel) (Or.inr rfl)
theorem f135_81 : zft 135 81 = some (.aload_n 0, 1) := fet B135 (by decide +kernel) (Or.inr rfl)
theorem f135_82 : zft 135 82 = some (.dup, 1) := fet B135 (by decide +kernel) (Or.inr rfl)
theorem f135_83 : zft 135 83 = some (.getfield 179, 3) := fet B135 (by decide +kernel) (Or.inr rfl)
theorem f135_86 : zft 135 86 = some (.iconst 1, 1) := fet B135 (by decide +kernel) (Or.inr rfl)
theorem f135_87 : zft 135 87 = some (.iadd, 1) := fet B135 (by decide +kernel) (Or.inr rfl)
theorem f135_88 : zft 135 88 = some (.putfield 179, 3) := fet B135 (by decide +kernel) (Or.inr rfl)
theorem f135_91 : zft 135 91 = some (.aload_n 0, 1) := fet B135 (by decide +kernel) (Or.inr rfl)
theorem f135_92 : zft 135 92 = some (.getfield 179, 3) := fet B135 (by decide +kernel) (Or.inr rfl)
theorem f135_95 : zft 135 95 = some (.ireturn, 1) := fet B135 (by decide +kernel) (Or.inr rfl)
theorem x135_0 : Rn S 135 0 [v0, .int a, v2, v3] st I J Q = Rn S 135 1 [v0, .int a, v2, v3] (.int a :: st) I J Q := rL f135_0 rfl rfl
theorem x135_1 : Rn S 135 1 [v0, v1, v2, v3] (.int a0 :: st) I J Q = (zcs st ≤ 8 ∧ Rn S 98 0 [.int a0] [] I J (fun v I' J' => Rn S 135 4 [v0, v1, v2, v3] (v.toList ++ st) I' J' Q)) := rCS (As := [.int a0]) f135_1 rfl rfl rfl rfl (Nat.le_of_ble_eq_true rfl)
theorem x135_4 : Rn S 135 4 [v0, v1, v2, v3] (.int a :: st) I J Q = if a = 0 then Rn S 135 26 [v0, v1, v2, v3] st I J Q else Rn S 135 7 [v0, v1, v2, v3] st I J Q := rIeq f135_4 rfl rfl
theorem x135_7 : Rn S 135 7 [v0, v1, .int a, v3] st I J Q = Rn S 135 8 [v0, v1, .int a, v3] (.int a :: st) I J Q := rL f135_7 rfl rfl
theorem x135_8 : Rn S 135 8 [v0, v1, v2, v3] (.int a :: st) I J Q = Rn S 135 9 [v0, v1, v2, v3] (.long a.toInt64 :: st) I J Q := rS f135_8 rfl
theorem x135_9 : Rn S 135 9 [v0, v1, v2, v3] st I J Q = Rn S 135 10 [v0, v1, v2, v3] (.long 0 :: st) I J Q := rS f135_9 rfl
theorem x135_10 : Rn S 135 10 [v0, v1, v2, v3] st I J Q = Rn S 135 13 [v0, v1, v2, v3] (.long 5 :: st) I J Q := rS f135_10 rfl
theorem x135_13 : Rn S 135 13 [v0, v1, v2, v3] (.long u2 :: .long u1 :: .long u0 :: st) I J Q = (zcs st ≤ 8 ∧ Rn S 96 0 [.long u0, .null, .long u1, .null, .long u2, .null] [] I J (fun v I' J' => Rn S 135 16 [v0, v1, v2, v3] (v.toList ++ st) I' J' Q)) := rCS (As := [.long u0, .long u1, .long u2]) f135_13 rfl rfl rfl rfl (Nat.le_of_ble_eq_true rfl)
theorem x135_16 : Rn S 135 16 [v0, v1, v2, v3] (.int a :: st) I J Q = if a = 0 then Rn S 135 26 [v0, v1, v2, v3] st I J Q else Rn S 135 19 [v0, v1, v2, v3] st I J Q := rIeq f135_16 rfl rfl
theorem x135_19 : Rn S 135 19 [v0, v1, v2, .int a] st I J Q = Rn S 135 20 [v0, v1, v2, .int a] (.int a :: st) I J Q := rL f135_19 rfl rfl
theorem x135_20 : Rn S 135 20 [v0, v1, v2, v3] (.int a0 :: st) I J Q = (zcs st ≤ 8 ∧ Rn S 128 0 [.int a0] [] I J (fun v I' J' => Rn S 135 23 [v0, v1, v2, v3] (v.toList ++ st) I' J' Q)) := rCS (As := [.int a0]) f135_20 rfl rfl rfl rfl (Nat.le_of_ble_eq_true rfl)
theorem x135_23 : Rn S 135 23 [v0, v1, v2, v3] (.int a :: st) I J Q = if a = 0 then Rn S 135 26 [v0, v1, v2, v3] st I J Q else Rn S 135 29 [v0, v1, v2, v3] st I J Q := rIne f135_23 rfl rfl
theorem x135_26 : Rn S 135 26 [v0, v1, v2, v3] st I J Q = Rn S 135 28 [v0, v1, v2, v3] (.int (-2) :: st) I J Q := rS f135_26 rfl
theorem x135_28 : Rn S 135 28 [v0, v1, v2, v3] [.int a] I J Q = Q (some (.int a)) I J := rR f135_28 rfl rfl rfl rfl rfl
theorem x135_29 : Rn S 135 29 [.ref q, v1, v2, v3] st I J Q = Rn S 135 30 [.ref q, v1, v2, v3] (.ref q :: st) I J Q := rL f135_29 rfl rfl
theorem x135_30_65 : Rn (zG xl) 135 30 [v0, v1, v2, v3] (.ref 65 :: st) I J Q = Rn (zG xl) 135 33 [v0, v1, v2, v3] (.int (I 65 14) :: st) I J Q := (rGf f135_30 rfl).trans (tr_and rfl)
theorem x135_33 : Rn S 135 33 [v0, v1, v2, v3] st I J Q = Rn S 135 35 [v0, v1, v2, v3] (.int 8 :: st) I J Q := rS f135_33 rfl
theorem x135_35 : Rn S 135 35 [v0, v1, v2, v3] (.int b :: .int a :: st) I J Q = if a = b then Rn S 135 38 [v0, v1, v2, v3] st I J Q else Rn S 135 41 [v0, v1, v2, v3] st I J Q := rCne f135_35 rfl rfl
theorem x135_38 : Rn S 135 38 [v0, v1, v2, v3] st I J Q = Rn S 135 40 [v0, v1, v2, v3] (.int (-4) :: st) I J Q := rS f135_38 rfl
theorem x135_40 : Rn S 135 40 [v0, v1, v2, v3] [.int a] I J Q = Q (some (.int a)) I J := rR f135_40 rfl rfl rfl rfl rfl
theorem x135_41 : Rn S 135 41 [.ref q, v1, v2, v3] st I J Q = Rn S 135 42 [.ref q, v1, v2, v3] (.ref q :: st) I J Q := rL f135_41 rfl rfl
theorem x135_42_65 : Rn (zG xl) 135 42 [v0, v1, v2, v3] (.ref 65 :: st) I J Q = Rn (zG xl) 135 45 [v0, v1, v2, v3] (.ref 75 :: st) I J Q := (rGf f135_42 rfl).trans (tr_and rfl)
theorem x135_45 : Rn S 135 45 [v0, v1, v2, v3] st I J Q = Rn S 135 46 [v0, v1, v2, v3] (.int 3 :: st) I J Q := rS f135_45 rfl
theorem x135_46 : Rn S 135 46 [.ref q, v1, v2, v3] st I J Q = Rn S 135 47 [.ref q, v1, v2, v3] (.ref q :: st) I J Q := rL f135_46 rfl rfl
theorem x135_47_65 : Rn (zG xl) 135 47 [v0, v1, v2, v3] (.ref 65 :: st) I J Q = Rn (zG xl) 135 50 [v0, v1, v2, v3] (.int (I 65 14) :: st) I J Q := (rGf f135_47 rfl).trans (tr_and rfl)
theorem x135_50 : Rn S 135 50 [v0, v1, v2, v3] (.int b :: .int a :: st) I J Q = Rn S 135 51 [v0, v1, v2, v3] (.int (a * b) :: st) I J Q := rS f135_50 rfl
theorem x135_51 : Rn S 135 51 [v0, .int a, v2, v3] st I J Q = Rn S 135 52 [v0, .int a, v2, v3] (.int a :: st) I J Q := rL f135_51 rfl rfl
theorem x135_52 : Rn S 135 52 [v0, v1, v2, v3] (.int b :: .int a :: .ref q :: st) I J Q = (zas S q a ∧ Rn S 135 53 [v0, v1, v2, v3] st (zr I q (upd (I q) a.toNatClampNeg b)) J Q) := rIas f135_52
theorem x135_53 : Rn S 135 53 [.ref q, v1, v2, v3] st I J Q = Rn S 135 54 [.ref q, v1, v2, v3] (.ref q :: st) I J Q := rL f135_53 rfl rfl
theorem x135_54_65 : Rn (zG xl) 135 54 [v0, v1, v2, v3] (.ref 65 :: st) I J Q = Rn (zG xl) 135 57 [v0, v1, v2, v3] (.ref 75 :: st) I J Q := (rGf f135_54 rfl).trans (tr_and rfl)
theorem x135_57 : Rn S 135 57 [v0, v1, v2, v3] st I J Q = Rn S 135 58 [v0, v1, v2, v3] (.int 3 :: st) I J Q := rS f135_57 rfl
theorem x135_58 : Rn S 135 58 [.ref q, v1, v2, v3] st I J Q = Rn S 135 59 [.ref q, v1, v2, v3] (.ref q :: st) I J Q := rL f135_58 rfl rfl
theorem x135_59_65 : Rn (zG xl) 135 59 [v0, v1, v2, v3] (.ref 65 :: st) I J Q = Rn (zG xl) 135 62 [v0, v1, v2, v3] (.int (I 65 14) :: st) I J Q := (rGf f135_59 rfl).trans (tr_and rfl)
theorem x135_62 : Rn S 135 62 [v0, v1, v2, v3] (.int b :: .int a :: st) I J Q = Rn S 135 63 [v0, v1, v2, v3] (.int (a * b) :: st) I J Q := rS f135_62 rfl
theorem x135_63 : Rn S 135 63 [v0, v1, v2, v3] st I J Q = Rn S 135 64 [v0, v1, v2, v3] (.int 1 :: st) I J Q := rS f135_63 rfl
theorem x135_64 : Rn S 135 64 [v0, v1, v2, v3] (.int b :: .int a :: st) I J Q = Rn S 135 65 [v0, v1, v2, v3] (.int (a + b) :: st) I J Q := rS f135_64 rfl
theorem x135_65 : Rn S 135 65 [v0, v1, .int a, v3] st I J Q = Rn S 135 66 [v0, v1, .int a, v3] (.int a :: st) I J Q := rL f135_65 rfl rfl
theorem x135_66 : Rn S 135 66 [v0, v1, v2, v3] (.int b :: .int a :: .ref q :: st) I J Q = (zas S q a ∧ Rn S 135 67 [v0, v1, v2, v3] st (zr I q (upd (I q) a.toNatClampNeg b)) J Q) := rIas f135_66
theorem x135_67 : Rn S 135 67 [.ref q, v1, v2, v3] st I J Q = Rn S 135 68 [.ref q, v1, v2, v3] (.ref q :: st) I J Q := rL f135_67 rfl rfl
theorem x135_68_65 : Rn (zG xl) 135 68 [v0, v1, v2, v3] (.ref 65 :: st) I J Q = Rn (zG xl) 135 71 [v0, v1, v2, v3] (.ref 75 :: st) I J Q := (rGf f135_68 rfl).trans (tr_and rfl)
theorem x135_71 : Rn S 135 71 [v0, v1, v2, v3] st I J Q = Rn S 135 72 [v0, v1, v2, v3] (.int 3 :: st) I J Q := rS f135_71 rfl
theorem x135_72 : Rn S 135 72 [.ref q, v1, v2, v3] st I J Q = Rn S 135 73 [.ref q, v1, v2, v3] (.ref q :: st) I J Q := rL f135_72 rfl rfl
theorem x135_73_65 : Rn (zG xl) 135 73 [v0, v1, v2, v3] (.ref 65 :: st) I J Q = Rn (zG xl) 135 76 [v0, v1, v2, v3] (.int (I 65 14) :: st) I J Q := (rGf f135_73 rfl).trans (tr_and rfl)
theorem x135_76 : Rn S 135 76 [v0, v1, v2, v3] (.int b :: .int a :: st) I J Q = Rn S 135 77 [v0, v1, v2, v3] (.int (a * b) :: st) I J Q := rS f135_76 rfl
theorem x135_77 : Rn S 135 77 [v0, v1, v2, v3] st I J Q = Rn S 135 78 [v0, v1, v2, v3] (.int 2 :: st) I J Q := rS f135_77 rfl
theorem x135_78 : Rn S 135 78 [v0, v1, v2, v3] (.int b :: .int a :: st) I J Q = Rn S 135 79 [v0, v1, v2, v3] (.int (a + b) :: st) I J Q := rS f135_78 rfl
theorem x135_79 : Rn S 135 79 [v0, v1, v2, .int a] st I J Q = Rn S 135 80 [v0, v1, v2, .int a] (.int a :: st) I J Q := rL f135_79 rfl rfl
theorem x135_80 : Rn S 135 80 [v0, v1, v2, v3] (.int b :: .int a :: .ref q :: st) I J Q = (zas S q a ∧ Rn S 135 81 [v0, v1, v2, v3] st (zr I q (upd (I q) a.toNatClampNeg b)) J Q) := rIas f135_80
theorem x135_81 : Rn S 135 81 [.ref q, v1, v2, v3] st I J Q = Rn S 135 82 [.ref q, v1, v2, v3] (.ref q :: st) I J Q := rL f135_81 rfl rfl
theorem x135_82i : Rn S 135 82 [v0, v1, v2, v3] (.int a :: st) I J Q = Rn S 135 83 [v0, v1, v2, v3] (.int a :: .int a :: st) I J Q := rS f135_82 rfl
theorem x135_82r : Rn S 135 82 [v0, v1, v2, v3] (.ref q :: st) I J Q = Rn S 135 83 [v0, v1, v2, v3] (.ref q :: .ref q :: st) I J Q := rS f135_82 rfl
theorem x135_83_65 : Rn (zG xl) 135 83 [v0, v1, v2, v3] (.ref 65 :: st) I J Q = Rn (zG xl) 135 86 [v0, v1, v2, v3] (.int (I 65 14) :: st) I J Q := (rGf f135_83 rfl).trans (tr_and rfl)
theorem x135_86 : Rn S 135 86 [v0, v1, v2, v3] st I J Q = Rn S 135 87 [v0, v1, v2, v3] (.int 1 :: st) I J Q := rS f135_86 rfl
theorem x135_87 : Rn S 135 87 [v0, v1, v2, v3] (.int b :: .int a :: st) I J Q = Rn S 135 88 [v0, v1, v2, v3] (.int (a + b) :: st) I J Q := rS f135_87 rfl
theorem x135_88_65 : Rn (zG xl) 135 88 [v0, v1, v2, v3] (.int a :: .ref 65 :: st) I J Q = Rn (zG xl) 135 91 [v0, v1, v2, v3] st (zr I 65 (upd (I 65) 14 a)) J Q := (rPf f135_88 rfl).trans (tr_pf rfl rfl rfl)
theorem x135_91 : Rn S 135 91 [.ref q, v1, v2, v3] st I J Q = Rn S 135 92 [.ref q, v1, v2, v3] (.ref q :: st) I J Q := rL f135_91 rfl rfl
theorem x135_92_65 : Rn (zG xl) 135 92 [v0, v1, v2, v3] (.ref 65 :: st) I J Q = Rn (zG xl) 135 95 [v0, v1, v2, v3] (.int (I 65 14) :: st) I J Q := (rGf f135_92 rfl).trans (tr_and rfl)
theorem x135_95 : Rn S 135 95 [v0, v1, v2, v3] [.int a] I J Q = Q (some (.int a)) I J := rR f135_95 rfl rfl rfl rfl rfl
/-! X6.back: 136 -/
theorem B136 : zB 136 = cX6_back := rfl
theorem f136_0 : zft 136 0 = some (.aload_n 0, 1) := fet B136 (by decide +kernel) (Or.inr rfl)
theorem f136_1 : zft 136 1 = some (.getfield 179, 3) := fet B136 (by decide +kernel) (Or.inr rfl)
theorem f136_4 : zft 136 4 = some (.ifCond .ne 6, 3) := fet B136 (by decide +kernel) (Or.inr rfl)
theorem f136_7 : zft 136 7 = some (.bipush (-3), 2) := fet B136 (by decide +kernel) (Or.inr rfl)
theorem f136_9 : zft 136 9 = some (.ireturn, 1) := fet B136 (by decide +kernel) (Or.inr rfl)
theorem f136_10 : zft 136 10 = some (.aload_n 0, 1) := fet B136 (by decide +kernel) (Or.inr rfl)
theorem f136_11 : zft 136 11 = some (.dup, 1) := fet B136 (by decide +kernel) (Or.inr rfl)
theorem f136_12 : zft 136 12 = some (.getfield 179, 3) := fet B136 (by decide +kernel) (Or.inr rfl)
theorem f136_15 : zft 136 15 = some (.iconst 1, 1) := fet B136 (by decide +kernel) (Or.inr rfl)
theorem f136_16 : zft 136 16 = some (.isub, 1) := fet B136 (by decide +kernel) (Or.inr rfl)
theorem f136_17 : zft 136 17 = some (.putfield 179, 3) := fet B136 (by decide +kernel) (Or.inr rfl)
theorem f136_20 : zft 136 20 = some (.aload_n 0, 1) := fet B136 (by decide +kernel) (Or.inr rfl)
theorem f136_21 : zft 136 21 = some (.getfield 179, 3) := fet B136 (by decide +kernel) (Or.inr rfl)
theorem f136_24 : zft 136 24 = some (.ireturn, 1) := fet B136 (by decide +kernel) (Or.inr rfl)
theorem x136_0 : Rn S 136 0 [.ref q] st I J Q = Rn S 136 1 [.ref q] (.ref q :: st) I J Q := rL f136_0 rfl rfl
theorem x136_1_65 : Rn (zG xl) 136 1 [v0] (.ref 65 :: st) I J Q = Rn (zG xl) 136 4 [v0] (.int (I 65 14) :: st) I J Q := (rGf f136_1 rfl).trans (tr_and rfl)
theorem x136_4 : Rn S 136 4 [v0] (.int a :: st) I J Q = if a = 0 then Rn S 136 7 [v0] st I J Q else Rn S 136 10 [v0] st I J Q := rIne f136_4 rfl rfl
theorem x136_7 : Rn S 136 7 [v0] st I J Q = Rn S 136 9 [v0] (.int (-3) :: st) I J Q := rS f136_7 rfl
theorem x136_9 : Rn S 136 9 [v0] [.int a] I J Q = Q (some (.int a)) I J := rR f136_9 rfl rfl rfl rfl rfl
theorem x136_10 : Rn S 136 10 [.ref q] st I J Q = Rn S 136 11 [.ref q] (.ref q :: st) I J Q := rL f136_10 rfl rfl
theorem x136_11i : Rn S 136 11 [v0] (.int a :: st) I J Q = Rn S 136 12 [v0] (.int a :: .int a :: st) I J Q := rS f136_11 rfl
theorem x136_11r : Rn S 136 11 [v0] (.ref q :: st) I J Q = Rn S 136 12 [v0] (.ref q :: .ref q :: st) I J Q := rS f136_11 rfl
theorem x136_12_65 : Rn (zG xl) 136 12 [v0] (.ref 65 :: st) I J Q = Rn (zG xl) 136 15 [v0] (.int (I 65 14) :: st) I J Q := (rGf f136_12 rfl).trans (tr_and rfl)
theorem x136_15 : Rn S 136 15 [v0] st I J Q = Rn S 136 16 [v0] (.int 1 :: st) I J Q := rS f136_15 rfl
theorem x136_16 : Rn S 136 16 [v0] (.int b :: .int a :: st) I J Q = Rn S 136 17 [v0] (.int (a - b) :: st) I J Q := rS f136_16 rfl
theorem x136_17_65 : Rn (zG xl) 136 17 [v0] (.int a :: .ref 65 :: st) I J Q = Rn (zG xl) 136 20 [v0] st (zr I 65 (upd (I 65) 14 a)) J Q := (rPf f136_17 rfl).trans (tr_pf rfl rfl rfl)
theorem x136_20 : Rn S 136 20 [.ref q] st I J Q = Rn S 136 21 [.ref q] (.ref q :: st) I J Q := rL f136_20 rfl rfl
theorem x136_21_65 : Rn (zG xl) 136 21 [v0] (.ref 65 :: st) I J Q = Rn (zG xl) 136 24 [v0] (.int (I 65 14) :: st) I J Q := (rGf f136_21 rfl).trans (tr_and rfl)
theorem x136_24 : Rn S 136 24 [v0] [.int a] I J Q = Q (some (.int a)) I J := rR f136_24 rfl rfl rfl rfl rfl
/-! X6.read: 137 -/
theorem B137 : zB 137 = cX6_read := rfl
theorem f137_0 : zft 137 0 = some (.iload_n 1, 1) := fet B137 (by decide +kernel) (Or.inr rfl)
theorem f137_1 : zft 137 1 = some (.invokestatic 95, 3) := fet B137 (by decide +kernel) (Or.inr rfl)
theorem f137_4 : zft 137 4 = some (.ifCond .ne 6, 3) := fet B137 (by decide +kernel) (Or.inr rfl)
theorem f137_7 : zft 137 7 = some (.bipush (-2), 2) := fet B137 (by decide +kernel) (Or.inr rfl)
theorem f137_9 : zft 137 9 = some (.ireturn, 1) := fet B137 (by decide +kernel) (Or.inr rfl)
theorem f137_10 : zft 137 10 = some (.aload_n 0, 1) := fet B137 (by decide +kernel) (Or.inr rfl)
theorem f137_11 : zft 137 11 = some (.getfield 7, 3) := fet B137 (by decide +kernel) (Or.inr rfl)
theorem f137_14 : zft 137 14 = some (.iload_n 1, 1) := fet B137 (by decide +kernel) (Or.inr rfl)
theorem f137_15 : zft 137 15 = some (.iaload, 1) := fet B137 (by decide +kernel) (Or.inr rfl)
theorem f137_16 : zft 137 16 = some (.ifCond .ge 9, 3) := fet B137 (by decide +kernel) (Or.inr rfl)
theorem f137_19 : zft 137 19 = some (.aload_n 0, 1) := fet B137 (by decide +kernel) (Or.inr rfl)
theorem f137_20 : zft 137 20 = some (.iconst 1, 1) := fet B137 (by decide +kernel) (Or.inr rfl)
theorem f137_21 : zft 137 21 = some (.invokevirtual 101, 3) := fet B137 (by decide +kernel) (Or.inr rfl)
theorem f137_24 : zft 137 24 = some (.ireturn, 1) := fet B137 (by decide +kernel) (Or.inr rfl)
theorem f137_25 : zft 137 25 = some (.iconst 0, 1) := fet B137 (by decide +kernel) (Or.inr rfl)
theorem f137_26 : zft 137 26 = some (.istore_n 2, 1) := fet B137 (by decide +kernel) (Or.inr rfl)
theorem f137_27 : zft 137 27 = some (.iconst 1, 1) := fet B137 (by decide +kernel) (Or.inr rfl)
theorem f137_28 : zft 137 28 = some (.istore_n 3, 1) := fet B137 (by decide +kernel) (Or.inr rfl)
theorem f137_29 : zft 137 29 = some (.iload_n 3, 1) := fet B137 (by decide +kernel) (Or.inr rfl)
theorem f137_30 : zft 137 30 = some (.ifCond .eq 80, 3) := fet B137 (by decide +kernel) (Or.inr rfl)
theorem f137_33 : zft 137 33 = some (.iconst 3, 1) := fet B137 (by decide +kernel) (Or.inr rfl)
theorem f137_34 : zft 137 34 = some (.iload_n 2, 1) := fet B137 (by decide +kernel) (Or.inr rfl)
theorem f137_35 : zft 137 35 = some (.imul, 1) := fet B137 (by decide +kernel) (Or.inr rfl)
theorem f137_36 : zft 137 36 = some (.iconst 3, 1) := fet B137 (by decide +kernel) (Or.inr rfl)
theorem f137_37 : zft 137 37 = some (.iadd, 1) := fet B137 (by decide +kernel) (Or.inr rfl)
theorem f137_38 : zft 137 38 = some (.aload_n 0, 1) := fet B137 (by decide +kernel) (Or.inr rfl)
theorem f137_39 : zft 137 39 = some (.getfield 13, 3) := fet B137 (by decide +kernel) (Or.inr rfl)
theorem f137_42 : zft 137 42 = some (.iload_n 1, 1) := fet B137 (by decide +kernel) (Or.inr rfl)
theorem f137_43 : zft 137 43 = some (.iaload, 1) := fet B137 (by decide +kernel) (Or.inr rfl)
theorem f137_44 : zft 137 44 = some (.if_icmp .gt 66, 3) := fet B137 (by decide +kernel) (Or.inr rfl)
theorem f137_47 : zft 137 47 = some (.bipush 60, 2) := fet B137 (by decide +kernel) (Or.inr rfl)
theorem f137_49 : zft 137 49 = some (.iload_n 1, 1) := fet B137 (by decide +kernel) (Or.inr rfl)
theorem f137_50 : zft 137 50 = some (.imul, 1) := fet B137 (by decide +kernel) (Or.inr rfl)
theorem f137_51 : zft 137 51 = some (.iconst 3, 1) := fet B137 (by decide +kernel) (Or.inr rfl)
theorem f137_52 : zft 137 52 = some (.iload_n 2, 1) := fet B137 (by decide +kernel) (Or.inr rfl)
theorem f137_53 : zft 137 53 = some (.imul, 1) := fet B137 (by decide +kernel) (Or.inr rfl)
theorem f137_54 : zft 137 54 = some (.iadd, 1) := fet B137 (by decide +kernel) (Or.inr rfl)
theorem f137_55 : zft 137 55 = some (.istore 4, 2) := fet B137 (by decide +kernel) (Or.inr rfl)
theorem f137_57 : zft 137 57 = some (.aload_n 0, 1) := fet B137 (by decide +kernel) (Or.inr rfl)
theorem f137_58 : zft 137 58 = some (.aload_n 0, 1) := fet B137 (by decide +kernel) (Or.inr rfl)
theorem f137_59 : zft 137 59 = some (.getfield 16, 3) := fet B137 (by decide +kernel) (Or.inr rfl)
theorem f137_62 : zft 137 62 = some (.iload 4, 2) := fet B137 (by decide +kernel) (Or.inr rfl)
theorem f137_64 : zft 137 64 = some (.iaload, 1) := fet B137 (by decide +kernel) (Or.inr rfl)
theorem f137_65 : zft 137 65 = some (.aload_n 0, 1) := fet B137 (by decide +kernel) (Or.inr rfl)
theorem f137_66 : zft 137 66 = some (.getfield 16, 3) := fet B137 (by decide +kernel) (Or.inr rfl)
theorem f137_69 : zft 137 69 = some (.iload 4, 2) := fet B137 (by decide +kernel) (Or.inr rfl)
theorem f137_71 : zft 137 71 = some (.iconst 1, 1) := fet B137 (by decide +kernel) (Or.inr rfl)
theorem f137_72 : zft 137 72 = some (.iadd, 1) := fet B137 (by decide +kernel) (Or.inr rfl)
theorem f137_73 : zft 137 73 = some (.iaload, 1) := fet B137 (by decide +kernel) (Or.inr rfl)
theorem f137_74 : zft 137 74 = some (.aload_n 0, 1) := fet B137 (by decide +kernel) (Or.inr rfl)
theorem f137_75 : zft 137 75 = some (.getfield 16, 3) := fet B137 (by decide +kernel) (Or.inr rfl)
theorem f137_78 : zft 137 78 = some (.iload 4, 2) := fet B137 (by decide +kernel) (Or.inr rfl)
theorem f137_80 : zft 137 80 = some (.iconst 2, 1) := fet B137 (by decide +kernel) (Or.inr rfl)
theorem f137_81 : zft 137 81 = some (.iadd, 1) := fet B137 (by decide +kernel) (Or.inr rfl)
theorem f137_82 : zft 137 82 = some (.iaload, 1) := fet B137 (by decide +kernel) (Or.inr rfl)
theorem f137_83 : zft 137 83 = some (.invokevirtual 182, 3) := fet B137 (by decide +kernel) (Or.inr rfl)
theorem f137_86 : zft 137 86 = some (.ifCond .lt 7, 3) := fet B137 (by decide +kernel) (Or.inr rfl)
theorem f137_89 : zft 137 89 = some (.iconst 1, 1) := fet B137 (by decide +kernel) (Or.inr rfl)
theorem f137_90 : zft 137 90 = some (.goto 4, 3) := fet B137 (by decide +kernel) (Or.inr rfl)
theorem f137_93 : zft 137 93 = some (.iconst 0, 1) := fet B137 (by decide +kernel) (Or.inr rfl)
theorem f137_94 : zft 137 94 = some (.istore_n 3, 1) := fet B137 (by decide +kernel) (Or.inr rfl)
theorem f137_95 : zft 137 95 = some (.iload_n 2, 1) := fet B137 (by decide +kernel) (Or.inr rfl)
theorem f137_96 : zft 137 96 = some (.iload_n 3, 1) := fet B137 (by decide +kernel) (Or.inr rfl)
theorem f137_97 : zft 137 97 = some (.ifCond .eq 7, 3) := fet B137 (by decide +kernel) (Or.inr rfl)
theorem f137_100 : zft 137 100 = some (.iconst 1, 1) := fet B137 (by decide +kernel) (Or.inr rfl)
theorem f137_101 : zft 137 101 = some (.goto 4, 3) := fet B137 (by decide +kernel) (Or.inr rfl)
theorem f137_104 : zft 137 104 = some (.iconst 0, 1) := fet B137 (by decide +kernel) (Or.inr rfl)
theorem f137_105 : zft 137 105 = some (.iadd, 1) := fet B137 (by decide +kernel) (Or.inr rfl)
theorem f137_106 : zft 137 106 = some (.istore_n 2, 1) := fet B137 (by decide +kernel) (Or.inr rfl)
theorem f137_107 : zft 137 107 = some (.goto (-78), 3) := fet B137 (by decide +kernel) (Or.inr rfl)
theorem f137_110 : zft 137 110 = some (.iload_n 2, 1) := fet B137 (by decide +kernel) (Or.inr rfl)
theorem f137_111 : zft 137 111 = some (.ireturn, 1) := fet B137 (by decide +kernel) (Or.inr rfl)
theorem x137_0 : Rn S 137 0 [v0, .int a, v2, v3, v4] st I J Q = Rn S 137 1 [v0, .int a, v2, v3, v4] (.int a :: st) I J Q := rL f137_0 rfl rfl
theorem x137_1 : Rn S 137 1 [v0, v1, v2, v3, v4] (.int a0 :: st) I J Q = (zcs st ≤ 8 ∧ Rn S 105 0 [.int a0] [] I J (fun v I' J' => Rn S 137 4 [v0, v1, v2, v3, v4] (v.toList ++ st) I' J' Q)) := rCS (As := [.int a0]) f137_1 rfl rfl rfl rfl (Nat.le_of_ble_eq_true rfl)
theorem x137_4 : Rn S 137 4 [v0, v1, v2, v3, v4] (.int a :: st) I J Q = if a = 0 then Rn S 137 7 [v0, v1, v2, v3, v4] st I J Q else Rn S 137 10 [v0, v1, v2, v3, v4] st I J Q := rIne f137_4 rfl rfl
theorem x137_7 : Rn S 137 7 [v0, v1, v2, v3, v4] st I J Q = Rn S 137 9 [v0, v1, v2, v3, v4] (.int (-2) :: st) I J Q := rS f137_7 rfl
theorem x137_9 : Rn S 137 9 [v0, v1, v2, v3, v4] [.int a] I J Q = Q (some (.int a)) I J := rR f137_9 rfl rfl rfl rfl rfl
theorem x137_10 : Rn S 137 10 [.ref q, v1, v2, v3, v4] st I J Q = Rn S 137 11 [.ref q, v1, v2, v3, v4] (.ref q :: st) I J Q := rL f137_10 rfl rfl
theorem x137_11_65 : Rn (zG xl) 137 11 [v0, v1, v2, v3, v4] (.ref 65 :: st) I J Q = Rn (zG xl) 137 14 [v0, v1, v2, v3, v4] (.ref 66 :: st) I J Q := (rGf f137_11 rfl).trans (tr_and rfl)
theorem x137_14 : Rn S 137 14 [v0, .int a, v2, v3, v4] st I J Q = Rn S 137 15 [v0, .int a, v2, v3, v4] (.int a :: st) I J Q := rL f137_14 rfl rfl
theorem x137_15 : Rn S 137 15 [v0, v1, v2, v3, v4] (.int a :: .ref q :: st) I J Q = (zai S q a ∧ Rn S 137 16 [v0, v1, v2, v3, v4] (.int (I q a.toNatClampNeg) :: st) I J Q) := rIal f137_15
theorem x137_16 : Rn S 137 16 [v0, v1, v2, v3, v4] (.int a :: st) I J Q = if a < 0 then Rn S 137 19 [v0, v1, v2, v3, v4] st I J Q else Rn S 137 25 [v0, v1, v2, v3, v4] st I J Q := rIge f137_16 rfl rfl
theorem x137_19 : Rn S 137 19 [.ref q, v1, v2, v3, v4] st I J Q = Rn S 137 20 [.ref q, v1, v2, v3, v4] (.ref q :: st) I J Q := rL f137_19 rfl rfl
theorem x137_20 : Rn S 137 20 [v0, v1, v2, v3, v4] st I J Q = Rn S 137 21 [v0, v1, v2, v3, v4] (.int 1 :: st) I J Q := rS f137_20 rfl
theorem x137_21 : Rn S 137 21 [v0, v1, v2, v3, v4] (.int a0 :: .ref q :: st) I J Q = ((zcls S q = 6 ∧ zcs st ≤ 8) ∧ Rn S 104 0 [.ref q, .int a0] [] I J (fun v I' J' => Rn S 137 24 [v0, v1, v2, v3, v4] (v.toList ++ st) I' J' Q)) := rCV (As := [.int a0]) f137_21 rfl rfl rfl rfl (Nat.le_of_ble_eq_true rfl)
theorem x137_24 : Rn S 137 24 [v0, v1, v2, v3, v4] [.int a] I J Q = Q (some (.int a)) I J := rR f137_24 rfl rfl rfl rfl rfl
theorem x137_25 : Rn S 137 25 [v0, v1, v2, v3, v4] st I J Q = Rn S 137 26 [v0, v1, v2, v3, v4] (.int 0 :: st) I J Q := rS f137_25 rfl
theorem x137_26 : Rn S 137 26 [v0, v1, v2, v3, v4] (.int a :: st) I J Q = Rn S 137 27 [v0, zkl v1, .int a, v3, v4] st I J Q := rL f137_26 rfl rfl
theorem x137_27 : Rn S 137 27 [v0, v1, v2, v3, v4] st I J Q = Rn S 137 28 [v0, v1, v2, v3, v4] (.int 1 :: st) I J Q := rS f137_27 rfl
theorem x137_28 : Rn S 137 28 [v0, v1, v2, v3, v4] (.int a :: st) I J Q = Rn S 137 29 [v0, v1, zkl v2, .int a, v4] st I J Q := rL f137_28 rfl rfl
theorem h137_29 : Rn S 137 29 [v0, v1, v2, .int a, v4] st I J Q = Rn S 137 30 [v0, v1, v2, .int a, v4] (.int a :: st) I J Q := rL f137_29 rfl rfl
theorem x137_30 : Rn S 137 30 [v0, v1, v2, v3, v4] (.int a :: st) I J Q = if a = 0 then Rn S 137 110 [v0, v1, v2, v3, v4] st I J Q else Rn S 137 33 [v0, v1, v2, v3, v4] st I J Q := rIeq f137_30 rfl rfl
theorem x137_33 : Rn S 137 33 [v0, v1, v2, v3, v4] st I J Q = Rn S 137 34 [v0, v1, v2, v3, v4] (.int 3 :: st) I J Q := rS f137_33 rfl
theorem x137_34 : Rn S 137 34 [v0, v1, .int a, v3, v4] st I J Q = Rn S 137 35 [v0, v1, .int a, v3, v4] (.int a :: st) I J Q := rL f137_34 rfl rfl
theorem x137_35 : Rn S 137 35 [v0, v1, v2, v3, v4] (.int b :: .int a :: st) I J Q = Rn S 137 36 [v0, v1, v2, v3, v4] (.int (a * b) :: st) I J Q := rS f137_35 rfl
theorem x137_36 : Rn S 137 36 [v0, v1, v2, v3, v4] st I J Q = Rn S 137 37 [v0, v1, v2, v3, v4] (.int 3 :: st) I J Q := rS f137_36 rfl
theorem x137_37 : Rn S 137 37 [v0, v1, v2, v3, v4] (.int b :: .int a :: st) I J Q = Rn S 137 38 [v0, v1, v2, v3, v4] (.int (a + b) :: st) I J Q := rS f137_37 rfl
theorem x137_38 : Rn S 137 38 [.ref q, v1, v2, v3, v4] st I J Q = Rn S 137 39 [.ref q, v1, v2, v3, v4] (.ref q :: st) I J Q := rL f137_38 rfl rfl
theorem x137_39_65 : Rn (zG xl) 137 39 [v0, v1, v2, v3, v4] (.ref 65 :: st) I J Q = Rn (zG xl) 137 42 [v0, v1, v2, v3, v4] (.ref 67 :: st) I J Q := (rGf f137_39 rfl).trans (tr_and rfl)
theorem x137_42 : Rn S 137 42 [v0, .int a, v2, v3, v4] st I J Q = Rn S 137 43 [v0, .int a, v2, v3, v4] (.int a :: st) I J Q := rL f137_42 rfl rfl
theorem x137_43 : Rn S 137 43 [v0, v1, v2, v3, v4] (.int a :: .ref q :: st) I J Q = (zai S q a ∧ Rn S 137 44 [v0, v1, v2, v3, v4] (.int (I q a.toNatClampNeg) :: st) I J Q) := rIal f137_43
theorem x137_44 : Rn S 137 44 [v0, v1, v2, v3, v4] (.int b :: .int a :: st) I J Q = if b < a then Rn S 137 110 [v0, v1, v2, v3, v4] st I J Q else Rn S 137 47 [v0, v1, v2, v3, v4] st I J Q := rCgt f137_44 rfl rfl
theorem x137_47 : Rn S 137 47 [v0, v1, v2, v3, v4] st I J Q = Rn S 137 49 [v0, v1, v2, v3, v4] (.int 60 :: st) I J Q := rS f137_47 rfl
theorem x137_49 : Rn S 137 49 [v0, .int a, v2, v3, v4] st I J Q = Rn S 137 50 [v0, .int a, v2, v3, v4] (.int a :: st) I J Q := rL f137_49 rfl rfl
theorem x137_50 : Rn S 137 50 [v0, v1, v2, v3, v4] (.int b :: .int a :: st) I J Q = Rn S 137 51 [v0, v1, v2, v3, v4] (.int (a * b) :: st) I J Q := rS f137_50 rfl
theorem x137_51 : Rn S 137 51 [v0, v1, v2, v3, v4] st I J Q = Rn S 137 52 [v0, v1, v2, v3, v4] (.int 3 :: st) I J Q := rS f137_51 rfl
theorem x137_52 : Rn S 137 52 [v0, v1, .int a, v3, v4] st I J Q = Rn S 137 53 [v0, v1, .int a, v3, v4] (.int a :: st) I J Q := rL f137_52 rfl rfl
theorem x137_53 : Rn S 137 53 [v0, v1, v2, v3, v4] (.int b :: .int a :: st) I J Q = Rn S 137 54 [v0, v1, v2, v3, v4] (.int (a * b) :: st) I J Q := rS f137_53 rfl
theorem x137_54 : Rn S 137 54 [v0, v1, v2, v3, v4] (.int b :: .int a :: st) I J Q = Rn S 137 55 [v0, v1, v2, v3, v4] (.int (a + b) :: st) I J Q := rS f137_54 rfl
theorem x137_55 : Rn S 137 55 [v0, v1, v2, v3, v4] (.int a :: st) I J Q = Rn S 137 57 [v0, v1, v2, zkl v3, .int a] st I J Q := rL f137_55 rfl rfl
theorem x137_57 : Rn S 137 57 [.ref q, v1, v2, v3, v4] st I J Q = Rn S 137 58 [.ref q, v1, v2, v3, v4] (.ref q :: st) I J Q := rL f137_57 rfl rfl
theorem x137_58 : Rn S 137 58 [.ref q, v1, v2, v3, v4] st I J Q = Rn S 137 59 [.ref q, v1, v2, v3, v4] (.ref q :: st) I J Q := rL f137_58 rfl rfl
theorem x137_59_65 : Rn (zG xl) 137 59 [v0, v1, v2, v3, v4] (.ref 65 :: st) I J Q = Rn (zG xl) 137 62 [v0, v1, v2, v3, v4] (.ref 68 :: st) I J Q := (rGf f137_59 rfl).trans (tr_and rfl)
theorem x137_62 : Rn S 137 62 [v0, v1, v2, v3, .int a] st I J Q = Rn S 137 64 [v0, v1, v2, v3, .int a] (.int a :: st) I J Q := rL f137_62 rfl rfl
theorem x137_64 : Rn S 137 64 [v0, v1, v2, v3, v4] (.int a :: .ref q :: st) I J Q = (zai S q a ∧ Rn S 137 65 [v0, v1, v2, v3, v4] (.int (I q a.toNatClampNeg) :: st) I J Q) := rIal f137_64
theorem x137_65 : Rn S 137 65 [.ref q, v1, v2, v3, v4] st I J Q = Rn S 137 66 [.ref q, v1, v2, v3, v4] (.ref q :: st) I J Q := rL f137_65 rfl rfl
theorem x137_66_65 : Rn (zG xl) 137 66 [v0, v1, v2, v3, v4] (.ref 65 :: st) I J Q = Rn (zG xl) 137 69 [v0, v1, v2, v3, v4] (.ref 68 :: st) I J Q := (rGf f137_66 rfl).trans (tr_and rfl)
theorem x137_69 : Rn S 137 69 [v0, v1, v2, v3, .int a] st I J Q = Rn S 137 71 [v0, v1, v2, v3, .int a] (.int a :: st) I J Q := rL f137_69 rfl rfl
theorem x137_71 : Rn S 137 71 [v0, v1, v2, v3, v4] st I J Q = Rn S 137 72 [v0, v1, v2, v3, v4] (.int 1 :: st) I J Q := rS f137_71 rfl
theorem x137_72 : Rn S 137 72 [v0, v1, v2, v3, v4] (.int b :: .int a :: st) I J Q = Rn S 137 73 [v0, v1, v2, v3, v4] (.int (a + b) :: st) I J Q := rS f137_72 rfl
theorem x137_73 : Rn S 137 73 [v0, v1, v2, v3, v4] (.int a :: .ref q :: st) I J Q = (zai S q a ∧ Rn S 137 74 [v0, v1, v2, v3, v4] (.int (I q a.toNatClampNeg) :: st) I J Q) := rIal f137_73
theorem x137_74 : Rn S 137 74 [.ref q, v1, v2, v3, v4] st I J Q = Rn S 137 75 [.ref q, v1, v2, v3, v4] (.ref q :: st) I J Q := rL f137_74 rfl rfl
theorem x137_75_65 : Rn (zG xl) 137 75 [v0, v1, v2, v3, v4] (.ref 65 :: st) I J Q = Rn (zG xl) 137 78 [v0, v1, v2, v3, v4] (.ref 68 :: st) I J Q := (rGf f137_75 rfl).trans (tr_and rfl)
theorem x137_78 : Rn S 137 78 [v0, v1, v2, v3, .int a] st I J Q = Rn S 137 80 [v0, v1, v2, v3, .int a] (.int a :: st) I J Q := rL f137_78 rfl rfl
theorem x137_80 : Rn S 137 80 [v0, v1, v2, v3, v4] st I J Q = Rn S 137 81 [v0, v1, v2, v3, v4] (.int 2 :: st) I J Q := rS f137_80 rfl
theorem x137_81 : Rn S 137 81 [v0, v1, v2, v3, v4] (.int b :: .int a :: st) I J Q = Rn S 137 82 [v0, v1, v2, v3, v4] (.int (a + b) :: st) I J Q := rS f137_81 rfl
theorem x137_82 : Rn S 137 82 [v0, v1, v2, v3, v4] (.int a :: .ref q :: st) I J Q = (zai S q a ∧ Rn S 137 83 [v0, v1, v2, v3, v4] (.int (I q a.toNatClampNeg) :: st) I J Q) := rIal f137_82
theorem x137_83 : Rn S 137 83 [v0, v1, v2, v3, v4] (.int a2 :: .int a1 :: .int a0 :: .ref q :: st) I J Q = ((zcls S q = 6 ∧ zcs st ≤ 8) ∧ Rn S 135 0 [.ref q, .int a0, .int a1, .int a2] [] I J (fun v I' J' => Rn S 137 86 [v0, v1, v2, v3, v4] (v.toList ++ st) I' J' Q)) := rCV (As := [.int a0, .int a1, .int a2]) f137_83 rfl rfl rfl rfl (Nat.le_of_ble_eq_true rfl)
theorem x137_86 : Rn S 137 86 [v0, v1, v2, v3, v4] (.int a :: st) I J Q = if a < 0 then Rn S 137 93 [v0, v1, v2, v3, v4] st I J Q else Rn S 137 89 [v0, v1, v2, v3, v4] st I J Q := rIlt f137_86 rfl rfl
theorem x137_89 : Rn S 137 89 [v0, v1, v2, v3, v4] st I J Q = Rn S 137 90 [v0, v1, v2, v3, v4] (.int 1 :: st) I J Q := rS f137_89 rfl
theorem x137_90 : Rn S 137 90 [v0, v1, v2, v3, v4] st I J Q = Rn S 137 94 [v0, v1, v2, v3, v4] st I J Q := rB f137_90 rfl rfl rfl
theorem x137_93 : Rn S 137 93 [v0, v1, v2, v3, v4] st I J Q = Rn S 137 94 [v0, v1, v2, v3, v4] (.int 0 :: st) I J Q := rS f137_93 rfl
theorem x137_94 : Rn S 137 94 [v0, v1, v2, v3, v4] (.int a :: st) I J Q = Rn S 137 95 [v0, v1, zkl v2, .int a, v4] st I J Q := rL f137_94 rfl rfl
theorem x137_95 : Rn S 137 95 [v0, v1, .int a, v3, v4] st I J Q = Rn S 137 96 [v0, v1, .int a, v3, v4] (.int a :: st) I J Q := rL f137_95 rfl rfl
theorem x137_96 : Rn S 137 96 [v0, v1, v2, .int a, v4] st I J Q = Rn S 137 97 [v0, v1, v2, .int a, v4] (.int a :: st) I J Q := rL f137_96 rfl rfl
theorem x137_97 : Rn S 137 97 [v0, v1, v2, v3, v4] (.int a :: st) I J Q = if a = 0 then Rn S 137 104 [v0, v1, v2, v3, v4] st I J Q else Rn S 137 100 [v0, v1, v2, v3, v4] st I J Q := rIeq f137_97 rfl rfl
theorem x137_100 : Rn S 137 100 [v0, v1, v2, v3, v4] st I J Q = Rn S 137 101 [v0, v1, v2, v3, v4] (.int 1 :: st) I J Q := rS f137_100 rfl
theorem x137_101 : Rn S 137 101 [v0, v1, v2, v3, v4] st I J Q = Rn S 137 105 [v0, v1, v2, v3, v4] st I J Q := rB f137_101 rfl rfl rfl
theorem x137_104 : Rn S 137 104 [v0, v1, v2, v3, v4] st I J Q = Rn S 137 105 [v0, v1, v2, v3, v4] (.int 0 :: st) I J Q := rS f137_104 rfl
theorem x137_105 : Rn S 137 105 [v0, v1, v2, v3, v4] (.int b :: .int a :: st) I J Q = Rn S 137 106 [v0, v1, v2, v3, v4] (.int (a + b) :: st) I J Q := rS f137_105 rfl
theorem x137_106 : Rn S 137 106 [v0, v1, v2, v3, v4] (.int a :: st) I J Q = Rn S 137 107 [v0, zkl v1, .int a, v3, v4] st I J Q := rL f137_106 rfl rfl
theorem x137_107 : Rn S 137 107 [v0, v1, v2, v3, v4] st I J Q = Rn S 137 29 [v0, v1, v2, v3, v4] st I J Q := rB f137_107 rfl rfl rfl
theorem x137_110 : Rn S 137 110 [v0, v1, .int a, v3, v4] st I J Q = Rn S 137 111 [v0, v1, .int a, v3, v4] (.int a :: st) I J Q := rL f137_110 rfl rfl
theorem x137_111 : Rn S 137 111 [v0, v1, v2, v3, v4] [.int a] I J Q = Q (some (.int a)) I J := rR f137_111 rfl rfl rfl rfl rfl
/-! X6.many: 138 -/
theorem B138 : zB 138 = cX6_many := rfl
theorem f138_0 : zft 138 0 = some (.iconst 0, 1) := fet B138 (by decide +kernel) (Or.inr rfl)
theorem f138_1 : zft 138 1 = some (.istore 5, 2) := fet B138 (by decide +kernel) (Or.inr rfl)
theorem f138_3 : zft 138 3 = some (.iconst 0, 1) := fet B138 (by decide +kernel) (Or.inr rfl)
theorem f138_4 : zft 138 4 = some (.istore 6, 2) := fet B138 (by decide +kernel) (Or.inr rfl)
theorem f138_6 : zft 138 6 = some (.iload 6, 2) := fet B138 (by decide +kernel) (Or.inr rfl)
theorem f138_8 : zft 138 8 = some (.aload_n 0, 1) := fet B138 (by decide +kernel) (Or.inr rfl)
theorem f138_9 : zft 138 9 = some (.getfield 179, 3) := fet B138 (by decide +kernel) (Or.inr rfl)
theorem f138_12 : zft 138 12 = some (.if_icmp .ge 82, 3) := fet B138 (by decide +kernel) (Or.inr rfl)
theorem f138_15 : zft 138 15 = some (.iload 5, 2) := fet B138 (by decide +kernel) (Or.inr rfl)
theorem f138_17 : zft 138 17 = some (.aload_n 0, 1) := fet B138 (by decide +kernel) (Or.inr rfl)
theorem f138_18 : zft 138 18 = some (.getfield 37, 3) := fet B138 (by decide +kernel) (Or.inr rfl)
theorem f138_21 : zft 138 21 = some (.iconst 3, 1) := fet B138 (by decide +kernel) (Or.inr rfl)
theorem f138_22 : zft 138 22 = some (.iload 6, 2) := fet B138 (by decide +kernel) (Or.inr rfl)
theorem f138_24 : zft 138 24 = some (.imul, 1) := fet B138 (by decide +kernel) (Or.inr rfl)
theorem f138_25 : zft 138 25 = some (.iaload, 1) := fet B138 (by decide +kernel) (Or.inr rfl)
theorem f138_26 : zft 138 26 = some (.iload_n 1, 1) := fet B138 (by decide +kernel) (Or.inr rfl)
theorem f138_27 : zft 138 27 = some (.if_icmp .ne 57, 3) := fet B138 (by decide +kernel) (Or.inr rfl)
theorem f138_30 : zft 138 30 = some (.aload_n 0, 1) := fet B138 (by decide +kernel) (Or.inr rfl)
theorem f138_31 : zft 138 31 = some (.getfield 37, 3) := fet B138 (by decide +kernel) (Or.inr rfl)
theorem f138_34 : zft 138 34 = some (.iconst 3, 1) := fet B138 (by decide +kernel) (Or.inr rfl)
theorem f138_35 : zft 138 35 = some (.iload 6, 2) := fet B138 (by decide +kernel) (Or.inr rfl)
theorem f138_37 : zft 138 37 = some (.imul, 1) := fet B138 (by decide +kernel) (Or.inr rfl)
theorem f138_38 : zft 138 38 = some (.iconst 1, 1) := fet B138 (by decide +kernel) (Or.inr rfl)
theorem f138_39 : zft 138 39 = some (.iadd, 1) := fet B138 (by decide +kernel) (Or.inr rfl)
theorem f138_40 : zft 138 40 = some (.iaload, 1) := fet B138 (by decide +kernel) (Or.inr rfl)
theorem f138_41 : zft 138 41 = some (.iload_n 2, 1) := fet B138 (by decide +kernel) (Or.inr rfl)
theorem f138_42 : zft 138 42 = some (.if_icmp .ne 42, 3) := fet B138 (by decide +kernel) (Or.inr rfl)
theorem f138_45 : zft 138 45 = some (.aload_n 0, 1) := fet B138 (by decide +kernel) (Or.inr rfl)
theorem f138_46 : zft 138 46 = some (.getfield 37, 3) := fet B138 (by decide +kernel) (Or.inr rfl)
theorem f138_49 : zft 138 49 = some (.iconst 3, 1) := fet B138 (by decide +kernel) (Or.inr rfl)
theorem f138_50 : zft 138 50 = some (.iload 6, 2) := fet B138 (by decide +kernel) (Or.inr rfl)
theorem f138_52 : zft 138 52 = some (.imul, 1) := fet B138 (by decide +kernel) (Or.inr rfl)
theorem f138_53 : zft 138 53 = some (.iconst 2, 1) := fet B138 (by decide +kernel) (Or.inr rfl)
theorem f138_54 : zft 138 54 = some (.iadd, 1) := fet B138 (by decide +kernel) (Or.inr rfl)
theorem f138_55 : zft 138 55 = some (.iaload, 1) := fet B138 (by decide +kernel) (Or.inr rfl)
theorem f138_56 : zft 138 56 = some (.i2l, 1) := fet B138 (by decide +kernel) (Or.inr rfl)
theorem f138_57 : zft 138 57 = some (.iload_n 3, 1) := fet B138 (by decide +kernel) (Or.inr rfl)
theorem f138_58 : zft 138 58 = some (.i2l, 1) := fet B138 (by decide +kernel) (Or.inr rfl)
theorem f138_59 : zft 138 59 = some (.iload 4, 2) := fet B138 (by decide +kernel) (Or.inr rfl)
theorem f138_61 : zft 138 61 = some (.i2l, 1) := fet B138 (by decide +kernel) (Or.inr rfl)
theorem f138_62 : zft 138 62 = some (.invokestatic 86, 3) := fet B138 (by decide +kernel) (Or.inr rfl)
theorem f138_65 : zft 138 65 = some (.ifCond .eq 19, 3) := fet B138 (by decide +kernel) (Or.inr rfl)
theorem f138_68 : zft 138 68 = some (.aload_n 0, 1) := fet B138 (by decide +kernel) (Or.inr rfl)
theorem f138_69 : zft 138 69 = some (.getfield 184, 3) := fet B138 (by decide +kernel) (Or.inr rfl)
theorem f138_72 : zft 138 72 = some (.iload 6, 2) := fet B138 (by decide +kernel) (Or.inr rfl)
theorem f138_74 : zft 138 74 = some (.invokestatic 187, 3) := fet B138 (by decide +kernel) (Or.inr rfl)
theorem f138_77 : zft 138 77 = some (.ifCond .ne 7, 3) := fet B138 (by decide +kernel) (Or.inr rfl)
theorem f138_80 : zft 138 80 = some (.iconst 1, 1) := fet B138 (by decide +kernel) (Or.inr rfl)
theorem f138_81 : zft 138 81 = some (.goto 4, 3) := fet B138 (by decide +kernel) (Or.inr rfl)
theorem f138_84 : zft 138 84 = some (.iconst 0, 1) := fet B138 (by decide +kernel) (Or.inr rfl)
theorem f138_85 : zft 138 85 = some (.iadd, 1) := fet B138 (by decide +kernel) (Or.inr rfl)
theorem f138_86 : zft 138 86 = some (.istore 5, 2) := fet B138 (by decide +kernel) (Or.inr rfl)
theorem f138_88 : zft 138 88 = some (.iinc 6 1, 3) := fet B138 (by decide +kernel) (Or.inr rfl)
theorem f138_91 : zft 138 91 = some (.goto (-85), 3) := fet B138 (by decide +kernel) (Or.inr rfl)
theorem f138_94 : zft 138 94 = some (.iload 5, 2) := fet B138 (by decide +kernel) (Or.inr rfl)
theorem f138_96 : zft 138 96 = some (.ireturn, 1) := fet B138 (by decide +kernel) (Or.inr rfl)
theorem x138_0 : Rn S 138 0 [v0, v1, v2, v3, v4, v5, v6] st I J Q = Rn S 138 1 [v0, v1, v2, v3, v4, v5, v6] (.int 0 :: st) I J Q := rS f138_0 rfl
theorem x138_1 : Rn S 138 1 [v0, v1, v2, v3, v4, v5, v6] (.int a :: st) I J Q = Rn S 138 3 [v0, v1, v2, v3, zkl v4, .int a, v6] st I J Q := rL f138_1 rfl rfl
theorem x138_3 : Rn S 138 3 [v0, v1, v2, v3, v4, v5, v6] st I J Q = Rn S 138 4 [v0, v1, v2, v3, v4, v5, v6] (.int 0 :: st) I J Q := rS f138_3 rfl
theorem x138_4 : Rn S 138 4 [v0, v1, v2, v3, v4, v5, v6] (.int a :: st) I J Q = Rn S 138 6 [v0, v1, v2, v3, v4, zkl v5, .int a] st I J Q := rL f138_4 rfl rfl
theorem h138_6 : Rn S 138 6 [v0, v1, v2, v3, v4, v5, .int a] st I J Q = Rn S 138 8 [v0, v1, v2, v3, v4, v5, .int a] (.int a :: st) I J Q := rL f138_6 rfl rfl
theorem x138_8 : Rn S 138 8 [.ref q, v1, v2, v3, v4, v5, v6] st I J Q = Rn S 138 9 [.ref q, v1, v2, v3, v4, v5, v6] (.ref q :: st) I J Q := rL f138_8 rfl rfl
theorem x138_9_65 : Rn (zG xl) 138 9 [v0, v1, v2, v3, v4, v5, v6] (.ref 65 :: st) I J Q = Rn (zG xl) 138 12 [v0, v1, v2, v3, v4, v5, v6] (.int (I 65 14) :: st) I J Q := (rGf f138_9 rfl).trans (tr_and rfl)
theorem x138_12 : Rn S 138 12 [v0, v1, v2, v3, v4, v5, v6] (.int b :: .int a :: st) I J Q = if a < b then Rn S 138 15 [v0, v1, v2, v3, v4, v5, v6] st I J Q else Rn S 138 94 [v0, v1, v2, v3, v4, v5, v6] st I J Q := rCge f138_12 rfl rfl
theorem x138_15 : Rn S 138 15 [v0, v1, v2, v3, v4, .int a, v6] st I J Q = Rn S 138 17 [v0, v1, v2, v3, v4, .int a, v6] (.int a :: st) I J Q := rL f138_15 rfl rfl
theorem x138_17 : Rn S 138 17 [.ref q, v1, v2, v3, v4, v5, v6] st I J Q = Rn S 138 18 [.ref q, v1, v2, v3, v4, v5, v6] (.ref q :: st) I J Q := rL f138_17 rfl rfl
theorem x138_18_65 : Rn (zG xl) 138 18 [v0, v1, v2, v3, v4, v5, v6] (.ref 65 :: st) I J Q = Rn (zG xl) 138 21 [v0, v1, v2, v3, v4, v5, v6] (.ref 75 :: st) I J Q := (rGf f138_18 rfl).trans (tr_and rfl)
theorem x138_21 : Rn S 138 21 [v0, v1, v2, v3, v4, v5, v6] st I J Q = Rn S 138 22 [v0, v1, v2, v3, v4, v5, v6] (.int 3 :: st) I J Q := rS f138_21 rfl
theorem x138_22 : Rn S 138 22 [v0, v1, v2, v3, v4, v5, .int a] st I J Q = Rn S 138 24 [v0, v1, v2, v3, v4, v5, .int a] (.int a :: st) I J Q := rL f138_22 rfl rfl
theorem x138_24 : Rn S 138 24 [v0, v1, v2, v3, v4, v5, v6] (.int b :: .int a :: st) I J Q = Rn S 138 25 [v0, v1, v2, v3, v4, v5, v6] (.int (a * b) :: st) I J Q := rS f138_24 rfl
theorem x138_25 : Rn S 138 25 [v0, v1, v2, v3, v4, v5, v6] (.int a :: .ref q :: st) I J Q = (zai S q a ∧ Rn S 138 26 [v0, v1, v2, v3, v4, v5, v6] (.int (I q a.toNatClampNeg) :: st) I J Q) := rIal f138_25
theorem x138_26 : Rn S 138 26 [v0, .int a, v2, v3, v4, v5, v6] st I J Q = Rn S 138 27 [v0, .int a, v2, v3, v4, v5, v6] (.int a :: st) I J Q := rL f138_26 rfl rfl
theorem x138_27 : Rn S 138 27 [v0, v1, v2, v3, v4, v5, v6] (.int b :: .int a :: st) I J Q = if a = b then Rn S 138 30 [v0, v1, v2, v3, v4, v5, v6] st I J Q else Rn S 138 84 [v0, v1, v2, v3, v4, v5, v6] st I J Q := rCne f138_27 rfl rfl
theorem x138_30 : Rn S 138 30 [.ref q, v1, v2, v3, v4, v5, v6] st I J Q = Rn S 138 31 [.ref q, v1, v2, v3, v4, v5, v6] (.ref q :: st) I J Q := rL f138_30 rfl rfl
theorem x138_31_65 : Rn (zG xl) 138 31 [v0, v1, v2, v3, v4, v5, v6] (.ref 65 :: st) I J Q = Rn (zG xl) 138 34 [v0, v1, v2, v3, v4, v5, v6] (.ref 75 :: st) I J Q := (rGf f138_31 rfl).trans (tr_and rfl)
theorem x138_34 : Rn S 138 34 [v0, v1, v2, v3, v4, v5, v6] st I J Q = Rn S 138 35 [v0, v1, v2, v3, v4, v5, v6] (.int 3 :: st) I J Q := rS f138_34 rfl
theorem x138_35 : Rn S 138 35 [v0, v1, v2, v3, v4, v5, .int a] st I J Q = Rn S 138 37 [v0, v1, v2, v3, v4, v5, .int a] (.int a :: st) I J Q := rL f138_35 rfl rfl
theorem x138_37 : Rn S 138 37 [v0, v1, v2, v3, v4, v5, v6] (.int b :: .int a :: st) I J Q = Rn S 138 38 [v0, v1, v2, v3, v4, v5, v6] (.int (a * b) :: st) I J Q := rS f138_37 rfl
theorem x138_38 : Rn S 138 38 [v0, v1, v2, v3, v4, v5, v6] st I J Q = Rn S 138 39 [v0, v1, v2, v3, v4, v5, v6] (.int 1 :: st) I J Q := rS f138_38 rfl
theorem x138_39 : Rn S 138 39 [v0, v1, v2, v3, v4, v5, v6] (.int b :: .int a :: st) I J Q = Rn S 138 40 [v0, v1, v2, v3, v4, v5, v6] (.int (a + b) :: st) I J Q := rS f138_39 rfl
theorem x138_40 : Rn S 138 40 [v0, v1, v2, v3, v4, v5, v6] (.int a :: .ref q :: st) I J Q = (zai S q a ∧ Rn S 138 41 [v0, v1, v2, v3, v4, v5, v6] (.int (I q a.toNatClampNeg) :: st) I J Q) := rIal f138_40
theorem x138_41 : Rn S 138 41 [v0, v1, .int a, v3, v4, v5, v6] st I J Q = Rn S 138 42 [v0, v1, .int a, v3, v4, v5, v6] (.int a :: st) I J Q := rL f138_41 rfl rfl
theorem x138_42 : Rn S 138 42 [v0, v1, v2, v3, v4, v5, v6] (.int b :: .int a :: st) I J Q = if a = b then Rn S 138 45 [v0, v1, v2, v3, v4, v5, v6] st I J Q else Rn S 138 84 [v0, v1, v2, v3, v4, v5, v6] st I J Q := rCne f138_42 rfl rfl
theorem x138_45 : Rn S 138 45 [.ref q, v1, v2, v3, v4, v5, v6] st I J Q = Rn S 138 46 [.ref q, v1, v2, v3, v4, v5, v6] (.ref q :: st) I J Q := rL f138_45 rfl rfl
theorem x138_46_65 : Rn (zG xl) 138 46 [v0, v1, v2, v3, v4, v5, v6] (.ref 65 :: st) I J Q = Rn (zG xl) 138 49 [v0, v1, v2, v3, v4, v5, v6] (.ref 75 :: st) I J Q := (rGf f138_46 rfl).trans (tr_and rfl)
theorem x138_49 : Rn S 138 49 [v0, v1, v2, v3, v4, v5, v6] st I J Q = Rn S 138 50 [v0, v1, v2, v3, v4, v5, v6] (.int 3 :: st) I J Q := rS f138_49 rfl
theorem x138_50 : Rn S 138 50 [v0, v1, v2, v3, v4, v5, .int a] st I J Q = Rn S 138 52 [v0, v1, v2, v3, v4, v5, .int a] (.int a :: st) I J Q := rL f138_50 rfl rfl
theorem x138_52 : Rn S 138 52 [v0, v1, v2, v3, v4, v5, v6] (.int b :: .int a :: st) I J Q = Rn S 138 53 [v0, v1, v2, v3, v4, v5, v6] (.int (a * b) :: st) I J Q := rS f138_52 rfl
theorem x138_53 : Rn S 138 53 [v0, v1, v2, v3, v4, v5, v6] st I J Q = Rn S 138 54 [v0, v1, v2, v3, v4, v5, v6] (.int 2 :: st) I J Q := rS f138_53 rfl
theorem x138_54 : Rn S 138 54 [v0, v1, v2, v3, v4, v5, v6] (.int b :: .int a :: st) I J Q = Rn S 138 55 [v0, v1, v2, v3, v4, v5, v6] (.int (a + b) :: st) I J Q := rS f138_54 rfl
theorem x138_55 : Rn S 138 55 [v0, v1, v2, v3, v4, v5, v6] (.int a :: .ref q :: st) I J Q = (zai S q a ∧ Rn S 138 56 [v0, v1, v2, v3, v4, v5, v6] (.int (I q a.toNatClampNeg) :: st) I J Q) := rIal f138_55
theorem x138_56 : Rn S 138 56 [v0, v1, v2, v3, v4, v5, v6] (.int a :: st) I J Q = Rn S 138 57 [v0, v1, v2, v3, v4, v5, v6] (.long a.toInt64 :: st) I J Q := rS f138_56 rfl
theorem x138_57 : Rn S 138 57 [v0, v1, v2, .int a, v4, v5, v6] st I J Q = Rn S 138 58 [v0, v1, v2, .int a, v4, v5, v6] (.int a :: st) I J Q := rL f138_57 rfl rfl
theorem x138_58 : Rn S 138 58 [v0, v1, v2, v3, v4, v5, v6] (.int a :: st) I J Q = Rn S 138 59 [v0, v1, v2, v3, v4, v5, v6] (.long a.toInt64 :: st) I J Q := rS f138_58 rfl
theorem x138_59 : Rn S 138 59 [v0, v1, v2, v3, .int a, v5, v6] st I J Q = Rn S 138 61 [v0, v1, v2, v3, .int a, v5, v6] (.int a :: st) I J Q := rL f138_59 rfl rfl
theorem x138_61 : Rn S 138 61 [v0, v1, v2, v3, v4, v5, v6] (.int a :: st) I J Q = Rn S 138 62 [v0, v1, v2, v3, v4, v5, v6] (.long a.toInt64 :: st) I J Q := rS f138_61 rfl
theorem x138_62 : Rn S 138 62 [v0, v1, v2, v3, v4, v5, v6] (.long u2 :: .long u1 :: .long u0 :: st) I J Q = (zcs st ≤ 8 ∧ Rn S 96 0 [.long u0, .null, .long u1, .null, .long u2, .null] [] I J (fun v I' J' => Rn S 138 65 [v0, v1, v2, v3, v4, v5, v6] (v.toList ++ st) I' J' Q)) := rCS (As := [.long u0, .long u1, .long u2]) f138_62 rfl rfl rfl rfl (Nat.le_of_ble_eq_true rfl)
theorem x138_65 : Rn S 138 65 [v0, v1, v2, v3, v4, v5, v6] (.int a :: st) I J Q = if a = 0 then Rn S 138 84 [v0, v1, v2, v3, v4, v5, v6] st I J Q else Rn S 138 68 [v0, v1, v2, v3, v4, v5, v6] st I J Q := rIeq f138_65 rfl rfl
theorem x138_68 : Rn S 138 68 [.ref q, v1, v2, v3, v4, v5, v6] st I J Q = Rn S 138 69 [.ref q, v1, v2, v3, v4, v5, v6] (.ref q :: st) I J Q := rL f138_68 rfl rfl
theorem x138_69_65 : Rn (zG xl) 138 69 [v0, v1, v2, v3, v4, v5, v6] (.ref 65 :: st) I J Q = Rn (zG xl) 138 72 [v0, v1, v2, v3, v4, v5, v6] (.int (I 65 16) :: st) I J Q := (rGf f138_69 rfl).trans (tr_and rfl)
theorem x138_72 : Rn S 138 72 [v0, v1, v2, v3, v4, v5, .int a] st I J Q = Rn S 138 74 [v0, v1, v2, v3, v4, v5, .int a] (.int a :: st) I J Q := rL f138_72 rfl rfl
theorem x138_74 : Rn S 138 74 [v0, v1, v2, v3, v4, v5, v6] (.int a1 :: .int a0 :: st) I J Q = (zcs st ≤ 8 ∧ Rn S 99 0 [.int a0, .int a1] [] I J (fun v I' J' => Rn S 138 77 [v0, v1, v2, v3, v4, v5, v6] (v.toList ++ st) I' J' Q)) := rCS (As := [.int a0, .int a1]) f138_74 rfl rfl rfl rfl (Nat.le_of_ble_eq_true rfl)
theorem x138_77 : Rn S 138 77 [v0, v1, v2, v3, v4, v5, v6] (.int a :: st) I J Q = if a = 0 then Rn S 138 80 [v0, v1, v2, v3, v4, v5, v6] st I J Q else Rn S 138 84 [v0, v1, v2, v3, v4, v5, v6] st I J Q := rIne f138_77 rfl rfl
theorem x138_80 : Rn S 138 80 [v0, v1, v2, v3, v4, v5, v6] st I J Q = Rn S 138 81 [v0, v1, v2, v3, v4, v5, v6] (.int 1 :: st) I J Q := rS f138_80 rfl
theorem x138_81 : Rn S 138 81 [v0, v1, v2, v3, v4, v5, v6] st I J Q = Rn S 138 85 [v0, v1, v2, v3, v4, v5, v6] st I J Q := rB f138_81 rfl rfl rfl
theorem x138_84 : Rn S 138 84 [v0, v1, v2, v3, v4, v5, v6] st I J Q = Rn S 138 85 [v0, v1, v2, v3, v4, v5, v6] (.int 0 :: st) I J Q := rS f138_84 rfl
theorem x138_85 : Rn S 138 85 [v0, v1, v2, v3, v4, v5, v6] (.int b :: .int a :: st) I J Q = Rn S 138 86 [v0, v1, v2, v3, v4, v5, v6] (.int (a + b) :: st) I J Q := rS f138_85 rfl
theorem x138_86 : Rn S 138 86 [v0, v1, v2, v3, v4, v5, v6] (.int a :: st) I J Q = Rn S 138 88 [v0, v1, v2, v3, zkl v4, .int a, v6] st I J Q := rL f138_86 rfl rfl
theorem x138_88 : Rn S 138 88 [v0, v1, v2, v3, v4, v5, .int a] st I J Q = Rn S 138 91 [v0, v1, v2, v3, v4, zkl v5, .int (a + 1)] st I J Q := rL f138_88 rfl rfl
theorem x138_91 : Rn S 138 91 [v0, v1, v2, v3, v4, v5, v6] st I J Q = Rn S 138 6 [v0, v1, v2, v3, v4, v5, v6] st I J Q := rB f138_91 rfl rfl rfl
theorem x138_94 : Rn S 138 94 [v0, v1, v2, v3, v4, .int a, v6] st I J Q = Rn S 138 96 [v0, v1, v2, v3, v4, .int a, v6] (.int a :: st) I J Q := rL f138_94 rfl rfl
theorem x138_96 : Rn S 138 96 [v0, v1, v2, v3, v4, v5, v6] [.int a] I J Q = Q (some (.int a)) I J := rR f138_96 rfl rfl rfl rfl rfl
/-! X6.does: 139 -/
theorem B139 : zB 139 = cX6_does := rfl
theorem f139_0 : zft 139 0 = some (.aload_n 0, 1) := fet B139 (by decide +kernel) (Or.inr rfl)
theorem f139_1 : zft 139 1 = some (.getfield 34, 3) := fet B139 (by decide +kernel) (Or.inr rfl)
theorem f139_4 : zft 139 4 = some (.iconst 2, 1) := fet B139 (by decide +kernel) (Or.inr rfl)
theorem f139_5 : zft 139 5 = some (.iload_n 1, 1) := fet B139 (by decide +kernel) (Or.inr rfl)
theorem f139_6 : zft 139 6 = some (.imul, 1) := fet B139 (by decide +kernel) (Or.inr rfl)
theorem f139_7 : zft 139 7 = some (.iaload, 1) := fet B139 (by decide +kernel) (Or.inr rfl)
theorem f139_8 : zft 139 8 = some (.istore_n 2, 1) := fet B139 (by decide +kernel) (Or.inr rfl)
theorem f139_9 : zft 139 9 = some (.aload_n 0, 1) := fet B139 (by decide +kernel) (Or.inr rfl)
theorem f139_10 : zft 139 10 = some (.getfield 34, 3) := fet B139 (by decide +kernel) (Or.inr rfl)
theorem f139_13 : zft 139 13 = some (.iconst 2, 1) := fet B139 (by decide +kernel) (Or.inr rfl)
theorem f139_14 : zft 139 14 = some (.iload_n 1, 1) := fet B139 (by decide +kernel) (Or.inr rfl)
theorem f139_15 : zft 139 15 = some (.imul, 1) := fet B139 (by decide +kernel) (Or.inr rfl)
theorem f139_16 : zft 139 16 = some (.iconst 1, 1) := fet B139 (by decide +kernel) (Or.inr rfl)
theorem f139_17 : zft 139 17 = some (.iadd, 1) := fet B139 (by decide +kernel) (Or.inr rfl)
theorem f139_18 : zft 139 18 = some (.iaload, 1) := fet B139 (by decide +kernel) (Or.inr rfl)
theorem f139_19 : zft 139 19 = some (.istore_n 3, 1) := fet B139 (by decide +kernel) (Or.inr rfl)
theorem f139_20 : zft 139 20 = some (.aload_n 0, 1) := fet B139 (by decide +kernel) (Or.inr rfl)
theorem f139_21 : zft 139 21 = some (.getfield 40, 3) := fet B139 (by decide +kernel) (Or.inr rfl)
theorem f139_24 : zft 139 24 = some (.iload_n 1, 1) := fet B139 (by decide +kernel) (Or.inr rfl)
theorem f139_25 : zft 139 25 = some (.iconst (-1), 1) := fet B139 (by decide +kernel) (Or.inr rfl)
theorem f139_26 : zft 139 26 = some (.iastore, 1) := fet B139 (by decide +kernel) (Or.inr rfl)
theorem f139_27 : zft 139 27 = some (.aload_n 0, 1) := fet B139 (by decide +kernel) (Or.inr rfl)
theorem f139_28 : zft 139 28 = some (.getfield 43, 3) := fet B139 (by decide +kernel) (Or.inr rfl)
theorem f139_31 : zft 139 31 = some (.iload_n 1, 1) := fet B139 (by decide +kernel) (Or.inr rfl)
theorem f139_32 : zft 139 32 = some (.iconst 0, 1) := fet B139 (by decide +kernel) (Or.inr rfl)
theorem f139_33 : zft 139 33 = some (.bastore, 1) := fet B139 (by decide +kernel) (Or.inr rfl)
theorem f139_34 : zft 139 34 = some (.aload_n 0, 1) := fet B139 (by decide +kernel) (Or.inr rfl)
theorem f139_35 : zft 139 35 = some (.iload_n 2, 1) := fet B139 (by decide +kernel) (Or.inr rfl)
theorem f139_36 : zft 139 36 = some (.invokevirtual 161, 3) := fet B139 (by decide +kernel) (Or.inr rfl)
theorem f139_39 : zft 139 39 = some (.ifCond .eq 20, 3) := fet B139 (by decide +kernel) (Or.inr rfl)
theorem f139_42 : zft 139 42 = some (.aload_n 0, 1) := fet B139 (by decide +kernel) (Or.inr rfl)
theorem f139_43 : zft 139 43 = some (.iload_n 3, 1) := fet B139 (by decide +kernel) (Or.inr rfl)
theorem f139_44 : zft 139 44 = some (.invokevirtual 155, 3) := fet B139 (by decide +kernel) (Or.inr rfl)
theorem f139_47 : zft 139 47 = some (.ifCond .eq 12, 3) := fet B139 (by decide +kernel) (Or.inr rfl)
theorem f139_50 : zft 139 50 = some (.aload_n 0, 1) := fet B139 (by decide +kernel) (Or.inr rfl)
theorem f139_51 : zft 139 51 = some (.getfield 62, 3) := fet B139 (by decide +kernel) (Or.inr rfl)
theorem f139_54 : zft 139 54 = some (.iload_n 2, 1) := fet B139 (by decide +kernel) (Or.inr rfl)
theorem f139_55 : zft 139 55 = some (.baload, 1) := fet B139 (by decide +kernel) (Or.inr rfl)
theorem f139_56 : zft 139 56 = some (.ifCond .eq 4, 3) := fet B139 (by decide +kernel) (Or.inr rfl)
theorem f139_59 : zft 139 59 = some (.return_, 1) := fet B139 (by decide +kernel) (Or.inr rfl)
theorem f139_60 : zft 139 60 = some (.aload_n 0, 1) := fet B139 (by decide +kernel) (Or.inr rfl)
theorem f139_61 : zft 139 61 = some (.getfield 31, 3) := fet B139 (by decide +kernel) (Or.inr rfl)
theorem f139_64 : zft 139 64 = some (.iconst 2, 1) := fet B139 (by decide +kernel) (Or.inr rfl)
theorem f139_65 : zft 139 65 = some (.iload_n 2, 1) := fet B139 (by decide +kernel) (Or.inr rfl)
theorem f139_66 : zft 139 66 = some (.imul, 1) := fet B139 (by decide +kernel) (Or.inr rfl)
theorem f139_67 : zft 139 67 = some (.iaload, 1) := fet B139 (by decide +kernel) (Or.inr rfl)
theorem f139_68 : zft 139 68 = some (.istore 4, 2) := fet B139 (by decide +kernel) (Or.inr rfl)
theorem f139_70 : zft 139 70 = some (.aload_n 0, 1) := fet B139 (by decide +kernel) (Or.inr rfl)
theorem f139_71 : zft 139 71 = some (.getfield 47, 3) := fet B139 (by decide +kernel) (Or.inr rfl)
theorem f139_74 : zft 139 74 = some (.iload_n 2, 1) := fet B139 (by decide +kernel) (Or.inr rfl)
theorem f139_75 : zft 139 75 = some (.iaload, 1) := fet B139 (by decide +kernel) (Or.inr rfl)
theorem f139_76 : zft 139 76 = some (.istore 5, 2) := fet B139 (by decide +kernel) (Or.inr rfl)
theorem f139_78 : zft 139 78 = some (.iload 4, 2) := fet B139 (by decide +kernel) (Or.inr rfl)
theorem f139_80 : zft 139 80 = some (.ifCond .ne 10, 3) := fet B139 (by decide +kernel) (Or.inr rfl)
theorem f139_83 : zft 139 83 = some (.iload 5, 2) := fet B139 (by decide +kernel) (Or.inr rfl)
theorem f139_85 : zft 139 85 = some (.iconst 1, 1) := fet B139 (by decide +kernel) (Or.inr rfl)
theorem f139_86 : zft 139 86 = some (.iadd, 1) := fet B139 (by decide +kernel) (Or.inr rfl)
theorem f139_87 : zft 139 87 = some (.goto 5, 3) := fet B139 (by decide +kernel) (Or.inr rfl)
theorem f139_90 : zft 139 90 = some (.iload 5, 2) := fet B139 (by decide +kernel) (Or.inr rfl)
theorem f139_92 : zft 139 92 = some (.istore 6, 2) := fet B139 (by decide +kernel) (Or.inr rfl)
theorem f139_94 : zft 139 94 = some (.iload 6, 2) := fet B139 (by decide +kernel) (Or.inr rfl)
theorem f139_96 : zft 139 96 = some (.aload_n 0, 1) := fet B139 (by decide +kernel) (Or.inr rfl)
theorem f139_97 : zft 139 97 = some (.getfield 80, 3) := fet B139 (by decide +kernel) (Or.inr rfl)
theorem f139_100 : zft 139 100 = some (.if_icmp .lt 11, 3) := fet B139 (by decide +kernel) (Or.inr rfl)
theorem f139_103 : zft 139 103 = some (.aload_n 0, 1) := fet B139 (by decide +kernel) (Or.inr rfl)
theorem f139_104 : zft 139 104 = some (.getfield 62, 3) := fet B139 (by decide +kernel) (Or.inr rfl)
theorem f139_107 : zft 139 107 = some (.iload_n 2, 1) := fet B139 (by decide +kernel) (Or.inr rfl)
theorem f139_108 : zft 139 108 = some (.iconst 1, 1) := fet B139 (by decide +kernel) (Or.inr rfl)
theorem f139_109 : zft 139 109 = some (.bastore, 1) := fet B139 (by decide +kernel) (Or.inr rfl)
theorem f139_110 : zft 139 110 = some (.return_, 1) := fet B139 (by decide +kernel) (Or.inr rfl)
theorem f139_111 : zft 139 111 = some (.aload_n 0, 1) := fet B139 (by decide +kernel) (Or.inr rfl)
theorem f139_112 : zft 139 112 = some (.getfield 40, 3) := fet B139 (by decide +kernel) (Or.inr rfl)
theorem f139_115 : zft 139 115 = some (.iload_n 1, 1) := fet B139 (by decide +kernel) (Or.inr rfl)
theorem f139_116 : zft 139 116 = some (.iload 5, 2) := fet B139 (by decide +kernel) (Or.inr rfl)
theorem f139_118 : zft 139 118 = some (.iastore, 1) := fet B139 (by decide +kernel) (Or.inr rfl)
theorem f139_119 : zft 139 119 = some (.aload_n 0, 1) := fet B139 (by decide +kernel) (Or.inr rfl)
theorem f139_120 : zft 139 120 = some (.getfield 50, 3) := fet B139 (by decide +kernel) (Or.inr rfl)
theorem f139_123 : zft 139 123 = some (.iload_n 2, 1) := fet B139 (by decide +kernel) (Or.inr rfl)
theorem f139_124 : zft 139 124 = some (.aload_n 0, 1) := fet B139 (by decide +kernel) (Or.inr rfl)
theorem f139_125 : zft 139 125 = some (.getfield 50, 3) := fet B139 (by decide +kernel) (Or.inr rfl)
theorem f139_128 : zft 139 128 = some (.iload_n 2, 1) := fet B139 (by decide +kernel) (Or.inr rfl)
theorem f139_129 : zft 139 129 = some (.iaload, 1) := fet B139 (by decide +kernel) (Or.inr rfl)
theorem f139_130 : zft 139 130 = some (.iconst 3, 1) := fet B139 (by decide +kernel) (Or.inr rfl)
theorem f139_131 : zft 139 131 = some (.aload_n 0, 1) := fet B139 (by decide +kernel) (Or.inr rfl)
theorem f139_132 : zft 139 132 = some (.iconst 1, 1) := fet B139 (by decide +kernel) (Or.inr rfl)
theorem f139_133 : zft 139 133 = some (.iload_n 2, 1) := fet B139 (by decide +kernel) (Or.inr rfl)
theorem f139_134 : zft 139 134 = some (.aload_n 0, 1) := fet B139 (by decide +kernel) (Or.inr rfl)
theorem f139_135 : zft 139 135 = some (.getfield 59, 3) := fet B139 (by decide +kernel) (Or.inr rfl)
theorem f139_138 : zft 139 138 = some (.iload_n 2, 1) := fet B139 (by decide +kernel) (Or.inr rfl)
theorem f139_139 : zft 139 139 = some (.iaload, 1) := fet B139 (by decide +kernel) (Or.inr rfl)
theorem f139_140 : zft 139 140 = some (.iconst 1, 1) := fet B139 (by decide +kernel) (Or.inr rfl)
theorem f139_141 : zft 139 141 = some (.iadd, 1) := fet B139 (by decide +kernel) (Or.inr rfl)
theorem f139_142 : zft 139 142 = some (.iload 5, 2) := fet B139 (by decide +kernel) (Or.inr rfl)
theorem f139_144 : zft 139 144 = some (.invokevirtual 191, 3) := fet B139 (by decide +kernel) (Or.inr rfl)
theorem f139_147 : zft 139 147 = some (.imul, 1) := fet B139 (by decide +kernel) (Or.inr rfl)
theorem f139_148 : zft 139 148 = some (.isub, 1) := fet B139 (by decide +kernel) (Or.inr rfl)
theorem f139_149 : zft 139 149 = some (.iconst 0, 1) := fet B139 (by decide +kernel) (Or.inr rfl)
theorem f139_150 : zft 139 150 = some (.invokestatic 195, 3) := fet B139 (by decide +kernel) (Or.inr rfl)
theorem f139_153 : zft 139 153 = some (.iastore, 1) := fet B139 (by decide +kernel) (Or.inr rfl)
theorem f139_154 : zft 139 154 = some (.aload_n 0, 1) := fet B139 (by decide +kernel) (Or.inr rfl)
theorem f139_155 : zft 139 155 = some (.getfield 31, 3) := fet B139 (by decide +kernel) (Or.inr rfl)
theorem f139_158 : zft 139 158 = some (.iconst 2, 1) := fet B139 (by decide +kernel) (Or.inr rfl)
theorem f139_159 : zft 139 159 = some (.iload_n 2, 1) := fet B139 (by decide +kernel) (Or.inr rfl)
theorem f139_160 : zft 139 160 = some (.imul, 1) := fet B139 (by decide +kernel) (Or.inr rfl)
theorem f139_161 : zft 139 161 = some (.iconst 1, 1) := fet B139 (by decide +kernel) (Or.inr rfl)
theorem f139_162 : zft 139 162 = some (.iadd, 1) := fet B139 (by decide +kernel) (Or.inr rfl)
theorem f139_163 : zft 139 163 = some (.iaload, 1) := fet B139 (by decide +kernel) (Or.inr rfl)
theorem f139_164 : zft 139 164 = some (.iload 4, 2) := fet B139 (by decide +kernel) (Or.inr rfl)
theorem f139_166 : zft 139 166 = some (.ifCond .ne 7, 3) := fet B139 (by decide +kernel) (Or.inr rfl)
theorem f139_169 : zft 139 169 = some (.iconst 2, 1) := fet B139 (by decide +kernel) (Or.inr rfl)
theorem f139_170 : zft 139 170 = some (.goto 4, 3) := fet B139 (by decide +kernel) (Or.inr rfl)
theorem f139_173 : zft 139 173 = some (.iconst 0, 1) := fet B139 (by decide +kernel) (Or.inr rfl)
theorem f139_174 : zft 139 174 = some (.iadd, 1) := fet B139 (by decide +kernel) (Or.inr rfl)
theorem f139_175 : zft 139 175 = some (.aload_n 0, 1) := fet B139 (by decide +kernel) (Or.inr rfl)
theorem f139_176 : zft 139 176 = some (.getfield 50, 3) := fet B139 (by decide +kernel) (Or.inr rfl)
theorem f139_179 : zft 139 179 = some (.iload_n 2, 1) := fet B139 (by decide +kernel) (Or.inr rfl)
theorem f139_180 : zft 139 180 = some (.iaload, 1) := fet B139 (by decide +kernel) (Or.inr rfl)
theorem f139_181 : zft 139 181 = some (.isub, 1) := fet B139 (by decide +kernel) (Or.inr rfl)
theorem f139_182 : zft 139 182 = some (.istore 7, 2) := fet B139 (by decide +kernel) (Or.inr rfl)
theorem f139_184 : zft 139 184 = some (.iload 4, 2) := fet B139 (by decide +kernel) (Or.inr rfl)
theorem f139_186 : zft 139 186 = some (.iconst 2, 1) := fet B139 (by decide +kernel) (Or.inr rfl)
theorem f139_187 : zft 139 187 = some (.if_icmp .ne 21, 3) := fet B139 (by decide +kernel) (Or.inr rfl)
theorem f139_190 : zft 139 190 = some (.aload_n 0, 1) := fet B139 (by decide +kernel) (Or.inr rfl)
theorem f139_191 : zft 139 191 = some (.getfield 28, 3) := fet B139 (by decide +kernel) (Or.inr rfl)
theorem f139_194 : zft 139 194 = some (.iconst 2, 1) := fet B139 (by decide +kernel) (Or.inr rfl)
theorem f139_195 : zft 139 195 = some (.iload_n 3, 1) := fet B139 (by decide +kernel) (Or.inr rfl)
theorem f139_196 : zft 139 196 = some (.imul, 1) := fet B139 (by decide +kernel) (Or.inr rfl)
theorem f139_197 : zft 139 197 = some (.iconst 1, 1) := fet B139 (by decide +kernel) (Or.inr rfl)
theorem f139_198 : zft 139 198 = some (.iadd, 1) := fet B139 (by decide +kernel) (Or.inr rfl)
theorem f139_199 : zft 139 199 = some (.iaload, 1) := fet B139 (by decide +kernel) (Or.inr rfl)
theorem f139_200 : zft 139 200 = some (.iconst 3, 1) := fet B139 (by decide +kernel) (Or.inr rfl)
theorem f139_201 : zft 139 201 = some (.if_icmp .ge 7, 3) := fet B139 (by decide +kernel) (Or.inr rfl)
theorem f139_204 : zft 139 204 = some (.iconst 1, 1) := fet B139 (by decide +kernel) (Or.inr rfl)
theorem f139_205 : zft 139 205 = some (.goto 4, 3) := fet B139 (by decide +kernel) (Or.inr rfl)
theorem f139_208 : zft 139 208 = some (.iconst 0, 1) := fet B139 (by decide +kernel) (Or.inr rfl)
theorem f139_209 : zft 139 209 = some (.istore 8, 2) := fet B139 (by decide +kernel) (Or.inr rfl)
theorem f139_211 : zft 139 211 = some (.aload_n 0, 1) := fet B139 (by decide +kernel) (Or.inr rfl)
theorem f139_212 : zft 139 212 = some (.getfield 43, 3) := fet B139 (by decide +kernel) (Or.inr rfl)
theorem f139_215 : zft 139 215 = some (.iload_n 1, 1) := fet B139 (by decide +kernel) (Or.inr rfl)
theorem f139_216 : zft 139 216 = some (.aload_n 0, 1) := fet B139 (by decide +kernel) (Or.inr rfl)
theorem f139_217 : zft 139 217 = some (.iconst 0, 1) := fet B139 (by decide +kernel) (Or.inr rfl)
theorem f139_218 : zft 139 218 = some (.iload_n 2, 1) := fet B139 (by decide +kernel) (Or.inr rfl)
theorem f139_219 : zft 139 219 = some (.iload 5, 2) := fet B139 (by decide +kernel) (Or.inr rfl)
theorem f139_221 : zft 139 221 = some (.iload 6, 2) := fet B139 (by decide +kernel) (Or.inr rfl)
theorem f139_223 : zft 139 223 = some (.invokevirtual 191, 3) := fet B139 (by decide +kernel) (Or.inr rfl)
theorem f139_226 : zft 139 226 = some (.ifCond .ne 23, 3) := fet B139 (by decide +kernel) (Or.inr rfl)
theorem f139_229 : zft 139 229 = some (.iload 7, 2) := fet B139 (by decide +kernel) (Or.inr rfl)
theorem f139_231 : zft 139 231 = some (.aload_n 0, 1) := fet B139 (by decide +kernel) (Or.inr rfl)
theorem f139_232 : zft 139 232 = some (.iload_n 3, 1) := fet B139 (by decide +kernel) (Or.inr rfl)
theorem f139_233 : zft 139 233 = some (.iconst 2, 1) := fet B139 (by decide +kernel) (Or.inr rfl)
theorem f139_234 : zft 139 234 = some (.invokevirtual 158, 3) := fet B139 (by decide +kernel) (Or.inr rfl)
theorem f139_237 : zft 139 237 = some (.if_icmp .lt 12, 3) := fet B139 (by decide +kernel) (Or.inr rfl)
theorem f139_240 : zft 139 240 = some (.iload 8, 2) := fet B139 (by decide +kernel) (Or.inr rfl)
theorem f139_242 : zft 139 242 = some (.ifCond .ne 7, 3) := fet B139 (by decide +kernel) (Or.inr rfl)
theorem f139_245 : zft 139 245 = some (.iconst 1, 1) := fet B139 (by decide +kernel) (Or.inr rfl)
theorem f139_246 : zft 139 246 = some (.goto 4, 3) := fet B139 (by decide +kernel) (Or.inr rfl)
theorem f139_249 : zft 139 249 = some (.iconst 0, 1) := fet B139 (by decide +kernel) (Or.inr rfl)
theorem f139_250 : zft 139 250 = some (.bastore, 1) := fet B139 (by decide +kernel) (Or.inr rfl)
theorem f139_251 : zft 139 251 = some (.aload_n 0, 1) := fet B139 (by decide +kernel) (Or.inr rfl)
theorem f139_252 : zft 139 252 = some (.getfield 50, 3) := fet B139 (by decide +kernel) (Or.inr rfl)
theorem f139_255 : zft 139 255 = some (.iload_n 2, 1) := fet B139 (by decide +kernel) (Or.inr rfl)
theorem f139_256 : zft 139 256 = some (.dup2, 1) := fet B139 (by decide +kernel) (Or.inr rfl)
theorem f139_257 : zft 139 257 = some (.iaload, 1) := fet B139 (by decide +kernel) (Or.inr rfl)
theorem f139_258 : zft 139 258 = some (.iload 4, 2) := fet B139 (by decide +kernel) (Or.inr rfl)
theorem f139_260 : zft 139 260 = some (.ifCond .ne 7, 3) := fet B139 (by decide +kernel) (Or.inr rfl)
theorem f139_263 : zft 139 263 = some (.iconst 2, 1) := fet B139 (by decide +kernel) (Or.inr rfl)
theorem f139_264 : zft 139 264 = some (.goto 4, 3) := fet B139 (by decide +kernel) (Or.inr rfl)
theorem f139_267 : zft 139 267 = some (.iconst 1, 1) := fet B139 (by decide +kernel) (Or.inr rfl)
theorem f139_268 : zft 139 268 = some (.iadd, 1) := fet B139 (by decide +kernel) (Or.inr rfl)
theorem f139_269 : zft 139 269 = some (.iastore, 1) := fet B139 (by decide +kernel) (Or.inr rfl)
theorem f139_270 : zft 139 270 = some (.aload_n 0, 1) := fet B139 (by decide +kernel) (Or.inr rfl)
theorem f139_271 : zft 139 271 = some (.getfield 59, 3) := fet B139 (by decide +kernel) (Or.inr rfl)
theorem f139_274 : zft 139 274 = some (.iload_n 2, 1) := fet B139 (by decide +kernel) (Or.inr rfl)
theorem f139_275 : zft 139 275 = some (.iload 5, 2) := fet B139 (by decide +kernel) (Or.inr rfl)
theorem f139_277 : zft 139 277 = some (.iastore, 1) := fet B139 (by decide +kernel) (Or.inr rfl)
theorem f139_278 : zft 139 278 = some (.aload_n 0, 1) := fet B139 (by decide +kernel) (Or.inr rfl)
theorem f139_279 : zft 139 279 = some (.getfield 47, 3) := fet B139 (by decide +kernel) (Or.inr rfl)
theorem f139_282 : zft 139 282 = some (.iload_n 2, 1) := fet B139 (by decide +kernel) (Or.inr rfl)
theorem f139_283 : zft 139 283 = some (.iload 6, 2) := fet B139 (by decide +kernel) (Or.inr rfl)
theorem f139_285 : zft 139 285 = some (.iconst 1, 1) := fet B139 (by decide +kernel) (Or.inr rfl)
theorem f139_286 : zft 139 286 = some (.iadd, 1) := fet B139 (by decide +kernel) (Or.inr rfl)
theorem f139_287 : zft 139 287 = some (.iastore, 1) := fet B139 (by decide +kernel) (Or.inr rfl)
theorem f139_288 : zft 139 288 = some (.aload_n 0, 1) := fet B139 (by decide +kernel) (Or.inr rfl)
theorem f139_289 : zft 139 289 = some (.getfield 53, 3) := fet B139 (by decide +kernel) (Or.inr rfl)
theorem f139_292 : zft 139 292 = some (.iload_n 2, 1) := fet B139 (by decide +kernel) (Or.inr rfl)
theorem f139_293 : zft 139 293 = some (.dup2, 1) := fet B139 (by decide +kernel) (Or.inr rfl)
theorem f139_294 : zft 139 294 = some (.iaload, 1) := fet B139 (by decide +kernel) (Or.inr rfl)
theorem f139_295 : zft 139 295 = some (.iconst 1, 1) := fet B139 (by decide +kernel) (Or.inr rfl)
theorem f139_296 : zft 139 296 = some (.iadd, 1) := fet B139 (by decide +kernel) (Or.inr rfl)
theorem f139_297 : zft 139 297 = some (.iastore, 1) := fet B139 (by decide +kernel) (Or.inr rfl)
theorem f139_298 : zft 139 298 = some (.aload_n 0, 1) := fet B139 (by decide +kernel) (Or.inr rfl)
theorem f139_299 : zft 139 299 = some (.getfield 71, 3) := fet B139 (by decide +kernel) (Or.inr rfl)
theorem f139_302 : zft 139 302 = some (.iload_n 3, 1) := fet B139 (by decide +kernel) (Or.inr rfl)
theorem f139_303 : zft 139 303 = some (.dup2, 1) := fet B139 (by decide +kernel) (Or.inr rfl)
theorem f139_304 : zft 139 304 = some (.iaload, 1) := fet B139 (by decide +kernel) (Or.inr rfl)
theorem f139_305 : zft 139 305 = some (.iconst 1, 1) := fet B139 (by decide +kernel) (Or.inr rfl)
theorem f139_306 : zft 139 306 = some (.iadd, 1) := fet B139 (by decide +kernel) (Or.inr rfl)
theorem f139_307 : zft 139 307 = some (.iastore, 1) := fet B139 (by decide +kernel) (Or.inr rfl)
theorem f139_308 : zft 139 308 = some (.aload_n 0, 1) := fet B139 (by decide +kernel) (Or.inr rfl)
theorem f139_309 : zft 139 309 = some (.getfield 43, 3) := fet B139 (by decide +kernel) (Or.inr rfl)
theorem f139_312 : zft 139 312 = some (.iload_n 1, 1) := fet B139 (by decide +kernel) (Or.inr rfl)
theorem f139_313 : zft 139 313 = some (.baload, 1) := fet B139 (by decide +kernel) (Or.inr rfl)
theorem f139_314 : zft 139 314 = some (.ifCond .eq 105, 3) := fet B139 (by decide +kernel) (Or.inr rfl)
theorem f139_317 : zft 139 317 = some (.aload_n 0, 1) := fet B139 (by decide +kernel) (Or.inr rfl)
theorem f139_318 : zft 139 318 = some (.getfield 56, 3) := fet B139 (by decide +kernel) (Or.inr rfl)
theorem f139_321 : zft 139 321 = some (.iload_n 2, 1) := fet B139 (by decide +kernel) (Or.inr rfl)
theorem f139_322 : zft 139 322 = some (.dup2, 1) := fet B139 (by decide +kernel) (Or.inr rfl)
theorem f139_323 : zft 139 323 = some (.iaload, 1) := fet B139 (by decide +kernel) (Or.inr rfl)
theorem f139_324 : zft 139 324 = some (.iconst 1, 1) := fet B139 (by decide +kernel) (Or.inr rfl)
theorem f139_325 : zft 139 325 = some (.iadd, 1) := fet B139 (by decide +kernel) (Or.inr rfl)
theorem f139_326 : zft 139 326 = some (.iastore, 1) := fet B139 (by decide +kernel) (Or.inr rfl)
theorem f139_327 : zft 139 327 = some (.aload_n 0, 1) := fet B139 (by decide +kernel) (Or.inr rfl)
theorem f139_328 : zft 139 328 = some (.getfield 65, 3) := fet B139 (by decide +kernel) (Or.inr rfl)
theorem f139_331 : zft 139 331 = some (.iload_n 3, 1) := fet B139 (by decide +kernel) (Or.inr rfl)
theorem f139_332 : zft 139 332 = some (.iaload, 1) := fet B139 (by decide +kernel) (Or.inr rfl)
theorem f139_333 : zft 139 333 = some (.iconst (-1), 1) := fet B139 (by decide +kernel) (Or.inr rfl)
theorem f139_334 : zft 139 334 = some (.if_icmp .eq 35, 3) := fet B139 (by decide +kernel) (Or.inr rfl)
theorem f139_337 : zft 139 337 = some (.iload 6, 2) := fet B139 (by decide +kernel) (Or.inr rfl)
theorem f139_339 : zft 139 339 = some (.aload_n 0, 1) := fet B139 (by decide +kernel) (Or.inr rfl)
theorem f139_340 : zft 139 340 = some (.getfield 68, 3) := fet B139 (by decide +kernel) (Or.inr rfl)
theorem f139_343 : zft 139 343 = some (.iload_n 3, 1) := fet B139 (by decide +kernel) (Or.inr rfl)
theorem f139_344 : zft 139 344 = some (.iaload, 1) := fet B139 (by decide +kernel) (Or.inr rfl)
theorem f139_345 : zft 139 345 = some (.if_icmp .lt 24, 3) := fet B139 (by decide +kernel) (Or.inr rfl)
theorem f139_348 : zft 139 348 = some (.iload 6, 2) := fet B139 (by decide +kernel) (Or.inr rfl)
theorem f139_350 : zft 139 350 = some (.aload_n 0, 1) := fet B139 (by decide +kernel) (Or.inr rfl)
theorem f139_351 : zft 139 351 = some (.getfield 68, 3) := fet B139 (by decide +kernel) (Or.inr rfl)
theorem f139_354 : zft 139 354 = some (.iload_n 3, 1) := fet B139 (by decide +kernel) (Or.inr rfl)
theorem f139_355 : zft 139 355 = some (.iaload, 1) := fet B139 (by decide +kernel) (Or.inr rfl)
theorem f139_356 : zft 139 356 = some (.if_icmp .ne 17, 3) := fet B139 (by decide +kernel) (Or.inr rfl)
theorem f139_359 : zft 139 359 = some (.iload_n 2, 1) := fet B139 (by decide +kernel) (Or.inr rfl)
theorem f139_360 : zft 139 360 = some (.aload_n 0, 1) := fet B139 (by decide +kernel) (Or.inr rfl)
theorem f139_361 : zft 139 361 = some (.getfield 65, 3) := fet B139 (by decide +kernel) (Or.inr rfl)
theorem f139_364 : zft 139 364 = some (.iload_n 3, 1) := fet B139 (by decide +kernel) (Or.inr rfl)
theorem f139_365 : zft 139 365 = some (.iaload, 1) := fet B139 (by decide +kernel) (Or.inr rfl)
theorem f139_366 : zft 139 366 = some (.if_icmp .ge 7, 3) := fet B139 (by decide +kernel) (Or.inr rfl)
theorem f139_369 : zft 139 369 = some (.iconst 1, 1) := fet B139 (by decide +kernel) (Or.inr rfl)
theorem f139_370 : zft 139 370 = some (.goto 4, 3) := fet B139 (by decide +kernel) (Or.inr rfl)
theorem f139_373 : zft 139 373 = some (.iconst 0, 1) := fet B139 (by decide +kernel) (Or.inr rfl)
theorem f139_374 : zft 139 374 = some (.istore 9, 2) := fet B139 (by decide +kernel) (Or.inr rfl)
theorem f139_376 : zft 139 376 = some (.aload_n 0, 1) := fet B139 (by decide +kernel) (Or.inr rfl)
theorem f139_377 : zft 139 377 = some (.getfield 65, 3) := fet B139 (by decide +kernel) (Or.inr rfl)
theorem f139_380 : zft 139 380 = some (.iload_n 3, 1) := fet B139 (by decide +kernel) (Or.inr rfl)
theorem f139_381 : zft 139 381 = some (.iload 9, 2) := fet B139 (by decide +kernel) (Or.inr rfl)
theorem f139_383 : zft 139 383 = some (.ifCond .eq 7, 3) := fet B139 (by decide +kernel) (Or.inr rfl)
theorem f139_386 : zft 139 386 = some (.iload_n 2, 1) := fet B139 (by decide +kernel) (Or.inr rfl)
theorem f139_387 : zft 139 387 = some (.goto 9, 3) := fet B139 (by decide +kernel) (Or.inr rfl)
theorem f139_390 : zft 139 390 = some (.aload_n 0, 1) := fet B139 (by decide +kernel) (Or.inr rfl)
theorem f139_391 : zft 139 391 = some (.getfield 65, 3) := fet B139 (by decide +kernel) (Or.inr rfl)
theorem f139_394 : zft 139 394 = some (.iload_n 3, 1) := fet B139 (by decide +kernel) (Or.inr rfl)
theorem f139_395 : zft 139 395 = some (.iaload, 1) := fet B139 (by decide +kernel) (Or.inr rfl)
theorem f139_396 : zft 139 396 = some (.iastore, 1) := fet B139 (by decide +kernel) (Or.inr rfl)
theorem f139_397 : zft 139 397 = some (.aload_n 0, 1) := fet B139 (by decide +kernel) (Or.inr rfl)
theorem f139_398 : zft 139 398 = some (.getfield 68, 3) := fet B139 (by decide +kernel) (Or.inr rfl)
theorem f139_401 : zft 139 401 = some (.iload_n 3, 1) := fet B139 (by decide +kernel) (Or.inr rfl)
theorem f139_402 : zft 139 402 = some (.iload 9, 2) := fet B139 (by decide +kernel) (Or.inr rfl)
theorem f139_404 : zft 139 404 = some (.ifCond .eq 8, 3) := fet B139 (by decide +kernel) (Or.inr rfl)
theorem f139_407 : zft 139 407 = some (.iload 6, 2) := fet B139 (by decide +kernel) (Or.inr rfl)
theorem f139_409 : zft 139 409 = some (.goto 9, 3) := fet B139 (by decide +kernel) (Or.inr rfl)
theorem f139_412 : zft 139 412 = some (.aload_n 0, 1) := fet B139 (by decide +kernel) (Or.inr rfl)
theorem f139_413 : zft 139 413 = some (.getfield 68, 3) := fet B139 (by decide +kernel) (Or.inr rfl)
theorem f139_416 : zft 139 416 = some (.iload_n 3, 1) := fet B139 (by decide +kernel) (Or.inr rfl)
theorem f139_417 : zft 139 417 = some (.iaload, 1) := fet B139 (by decide +kernel) (Or.inr rfl)
theorem f139_418 : zft 139 418 = some (.iastore, 1) := fet B139 (by decide +kernel) (Or.inr rfl)
theorem f139_419 : zft 139 419 = some (.return_, 1) := fet B139 (by decide +kernel) (Or.inr rfl)
theorem x139_0 : Rn S 139 0 [.ref q, v1, v2, v3, v4, v5, v6, v7, v8, v9] st I J Q = Rn S 139 1 [.ref q, v1, v2, v3, v4, v5, v6, v7, v8, v9] (.ref q :: st) I J Q := rL f139_0 rfl rfl
theorem x139_1_65 : Rn (zG xl) 139 1 [v0, v1, v2, v3, v4, v5, v6, v7, v8, v9] (.ref 65 :: st) I J Q = Rn (zG xl) 139 4 [v0, v1, v2, v3, v4, v5, v6, v7, v8, v9] (.ref 74 :: st) I J Q := (rGf f139_1 rfl).trans (tr_and rfl)
theorem x139_4 : Rn S 139 4 [v0, v1, v2, v3, v4, v5, v6, v7, v8, v9] st I J Q = Rn S 139 5 [v0, v1, v2, v3, v4, v5, v6, v7, v8, v9] (.int 2 :: st) I J Q := rS f139_4 rfl
theorem x139_5 : Rn S 139 5 [v0, .int a, v2, v3, v4, v5, v6, v7, v8, v9] st I J Q = Rn S 139 6 [v0, .int a, v2, v3, v4, v5, v6, v7, v8, v9] (.int a :: st) I J Q := rL f139_5 rfl rfl
theorem x139_6 : Rn S 139 6 [v0, v1, v2, v3, v4, v5, v6, v7, v8, v9] (.int b :: .int a :: st) I J Q = Rn S 139 7 [v0, v1, v2, v3, v4, v5, v6, v7, v8, v9] (.int (a * b) :: st) I J Q := rS f139_6 rfl
theorem x139_7 : Rn S 139 7 [v0, v1, v2, v3, v4, v5, v6, v7, v8, v9] (.int a :: .ref q :: st) I J Q = (zai S q a ∧ Rn S 139 8 [v0, v1, v2, v3, v4, v5, v6, v7, v8, v9] (.int (I q a.toNatClampNeg) :: st) I J Q) := rIal f139_7
theorem x139_8 : Rn S 139 8 [v0, v1, v2, v3, v4, v5, v6, v7, v8, v9] (.int a :: st) I J Q = Rn S 139 9 [v0, zkl v1, .int a, v3, v4, v5, v6, v7, v8, v9] st I J Q := rL f139_8 rfl rfl
theorem x139_9 : Rn S 139 9 [.ref q, v1, v2, v3, v4, v5, v6, v7, v8, v9] st I J Q = Rn S 139 10 [.ref q, v1, v2, v3, v4, v5, v6, v7, v8, v9] (.ref q :: st) I J Q := rL f139_9 rfl rfl
theorem x139_10_65 : Rn (zG xl) 139 10 [v0, v1, v2, v3, v4, v5, v6, v7, v8, v9] (.ref 65 :: st) I J Q = Rn (zG xl) 139 13 [v0, v1, v2, v3, v4, v5, v6, v7, v8, v9] (.ref 74 :: st) I J Q := (rGf f139_10 rfl).trans (tr_and rfl)
theorem x139_13 : Rn S 139 13 [v0, v1, v2, v3, v4, v5, v6, v7, v8, v9] st I J Q = Rn S 139 14 [v0, v1, v2, v3, v4, v5, v6, v7, v8, v9] (.int 2 :: st) I J Q := rS f139_13 rfl
theorem x139_14 : Rn S 139 14 [v0, .int a, v2, v3, v4, v5, v6, v7, v8, v9] st I J Q = Rn S 139 15 [v0, .int a, v2, v3, v4, v5, v6, v7, v8, v9] (.int a :: st) I J Q := rL f139_14 rfl rfl
theorem x139_15 : Rn S 139 15 [v0, v1, v2, v3, v4, v5, v6, v7, v8, v9] (.int b :: .int a :: st) I J Q = Rn S 139 16 [v0, v1, v2, v3, v4, v5, v6, v7, v8, v9] (.int (a * b) :: st) I J Q := rS f139_15 rfl
theorem x139_16 : Rn S 139 16 [v0, v1, v2, v3, v4, v5, v6, v7, v8, v9] st I J Q = Rn S 139 17 [v0, v1, v2, v3, v4, v5, v6, v7, v8, v9] (.int 1 :: st) I J Q := rS f139_16 rfl
theorem x139_17 : Rn S 139 17 [v0, v1, v2, v3, v4, v5, v6, v7, v8, v9] (.int b :: .int a :: st) I J Q = Rn S 139 18 [v0, v1, v2, v3, v4, v5, v6, v7, v8, v9] (.int (a + b) :: st) I J Q := rS f139_17 rfl
theorem x139_18 : Rn S 139 18 [v0, v1, v2, v3, v4, v5, v6, v7, v8, v9] (.int a :: .ref q :: st) I J Q = (zai S q a ∧ Rn S 139 19 [v0, v1, v2, v3, v4, v5, v6, v7, v8, v9] (.int (I q a.toNatClampNeg) :: st) I J Q) := rIal f139_18
theorem x139_19 : Rn S 139 19 [v0, v1, v2, v3, v4, v5, v6, v7, v8, v9] (.int a :: st) I J Q = Rn S 139 20 [v0, v1, zkl v2, .int a, v4, v5, v6, v7, v8, v9] st I J Q := rL f139_19 rfl rfl
theorem x139_20 : Rn S 139 20 [.ref q, v1, v2, v3, v4, v5, v6, v7, v8, v9] st I J Q = Rn S 139 21 [.ref q, v1, v2, v3, v4, v5, v6, v7, v8, v9] (.ref q :: st) I J Q := rL f139_20 rfl rfl
theorem x139_21_65 : Rn (zG xl) 139 21 [v0, v1, v2, v3, v4, v5, v6, v7, v8, v9] (.ref 65 :: st) I J Q = Rn (zG xl) 139 24 [v0, v1, v2, v3, v4, v5, v6, v7, v8, v9] (.ref 76 :: st) I J Q := (rGf f139_21 rfl).trans (tr_and rfl)
theorem x139_24 : Rn S 139 24 [v0, .int a, v2, v3, v4, v5, v6, v7, v8, v9] st I J Q = Rn S 139 25 [v0, .int a, v2, v3, v4, v5, v6, v7, v8, v9] (.int a :: st) I J Q := rL f139_24 rfl rfl
theorem x139_25 : Rn S 139 25 [v0, v1, v2, v3, v4, v5, v6, v7, v8, v9] st I J Q = Rn S 139 26 [v0, v1, v2, v3, v4, v5, v6, v7, v8, v9] (.int (-1) :: st) I J Q := rS f139_25 rfl
theorem x139_26 : Rn S 139 26 [v0, v1, v2, v3, v4, v5, v6, v7, v8, v9] (.int b :: .int a :: .ref q :: st) I J Q = (zas S q a ∧ Rn S 139 27 [v0, v1, v2, v3, v4, v5, v6, v7, v8, v9] st (zr I q (upd (I q) a.toNatClampNeg b)) J Q) := rIas f139_26
theorem x139_27 : Rn S 139 27 [.ref q, v1, v2, v3, v4, v5, v6, v7, v8, v9] st I J Q = Rn S 139 28 [.ref q, v1, v2, v3, v4, v5, v6, v7, v8, v9] (.ref q :: st) I J Q := rL f139_27 rfl rfl
theorem x139_28_65 : Rn (zG xl) 139 28 [v0, v1, v2, v3, v4, v5, v6, v7, v8, v9] (.ref 65 :: st) I J Q = Rn (zG xl) 139 31 [v0, v1, v2, v3, v4, v5, v6, v7, v8, v9] (.ref 77 :: st) I J Q := (rGf f139_28 rfl).trans (tr_and rfl)
theorem x139_31 : Rn S 139 31 [v0, .int a, v2, v3, v4, v5, v6, v7, v8, v9] st I J Q = Rn S 139 32 [v0, .int a, v2, v3, v4, v5, v6, v7, v8, v9] (.int a :: st) I J Q := rL f139_31 rfl rfl
theorem x139_32 : Rn S 139 32 [v0, v1, v2, v3, v4, v5, v6, v7, v8, v9] st I J Q = Rn S 139 33 [v0, v1, v2, v3, v4, v5, v6, v7, v8, v9] (.int 0 :: st) I J Q := rS f139_32 rfl
theorem x139_33 : Rn S 139 33 [v0, v1, v2, v3, v4, v5, v6, v7, v8, v9] (.int b :: .int a :: .ref q :: st) I J Q = ((zac S q a ∧ (b = 0 ∨ b = 1)) ∧ Rn S 139 34 [v0, v1, v2, v3, v4, v5, v6, v7, v8, v9] st (zr I q (upd (I q) a.toNatClampNeg b)) J Q) := rBas f139_33
theorem x139_34 : Rn S 139 34 [.ref q, v1, v2, v3, v4, v5, v6, v7, v8, v9] st I J Q = Rn S 139 35 [.ref q, v1, v2, v3, v4, v5, v6, v7, v8, v9] (.ref q :: st) I J Q := rL f139_34 rfl rfl
theorem x139_35 : Rn S 139 35 [v0, v1, .int a, v3, v4, v5, v6, v7, v8, v9] st I J Q = Rn S 139 36 [v0, v1, .int a, v3, v4, v5, v6, v7, v8, v9] (.int a :: st) I J Q := rL f139_35 rfl rfl
theorem x139_36 : Rn S 139 36 [v0, v1, v2, v3, v4, v5, v6, v7, v8, v9] (.int a0 :: .ref q :: st) I J Q = ((zcls S q = 6 ∧ zcs st ≤ 8) ∧ Rn S 127 0 [.ref q, .int a0] [] I J (fun v I' J' => Rn S 139 39 [v0, v1, v2, v3, v4, v5, v6, v7, v8, v9] (v.toList ++ st) I' J' Q)) := rCV (As := [.int a0]) f139_36 rfl rfl rfl rfl (Nat.le_of_ble_eq_true rfl)
theorem x139_39 : Rn S 139 39 [v0, v1, v2, v3, v4, v5, v6, v7, v8, v9] (.int a :: st) I J Q = if a = 0 then Rn S 139 59 [v0, v1, v2, v3, v4, v5, v6, v7, v8, v9] st I J Q else Rn S 139 42 [v0, v1, v2, v3, v4, v5, v6, v7, v8, v9] st I J Q := rIeq f139_39 rfl rfl
theorem x139_42 : Rn S 139 42 [.ref q, v1, v2, v3, v4, v5, v6, v7, v8, v9] st I J Q = Rn S 139 43 [.ref q, v1, v2, v3, v4, v5, v6, v7, v8, v9] (.ref q :: st) I J Q := rL f139_42 rfl rfl
theorem x139_43 : Rn S 139 43 [v0, v1, v2, .int a, v4, v5, v6, v7, v8, v9] st I J Q = Rn S 139 44 [v0, v1, v2, .int a, v4, v5, v6, v7, v8, v9] (.int a :: st) I J Q := rL f139_43 rfl rfl
theorem x139_44 : Rn S 139 44 [v0, v1, v2, v3, v4, v5, v6, v7, v8, v9] (.int a0 :: .ref q :: st) I J Q = ((zcls S q = 6 ∧ zcs st ≤ 8) ∧ Rn S 126 0 [.ref q, .int a0] [] I J (fun v I' J' => Rn S 139 47 [v0, v1, v2, v3, v4, v5, v6, v7, v8, v9] (v.toList ++ st) I' J' Q)) := rCV (As := [.int a0]) f139_44 rfl rfl rfl rfl (Nat.le_of_ble_eq_true rfl)
theorem x139_47 : Rn S 139 47 [v0, v1, v2, v3, v4, v5, v6, v7, v8, v9] (.int a :: st) I J Q = if a = 0 then Rn S 139 59 [v0, v1, v2, v3, v4, v5, v6, v7, v8, v9] st I J Q else Rn S 139 50 [v0, v1, v2, v3, v4, v5, v6, v7, v8, v9] st I J Q := rIeq f139_47 rfl rfl
theorem x139_50 : Rn S 139 50 [.ref q, v1, v2, v3, v4, v5, v6, v7, v8, v9] st I J Q = Rn S 139 51 [.ref q, v1, v2, v3, v4, v5, v6, v7, v8, v9] (.ref q :: st) I J Q := rL f139_50 rfl rfl
theorem x139_51_65 : Rn (zG xl) 139 51 [v0, v1, v2, v3, v4, v5, v6, v7, v8, v9] (.ref 65 :: st) I J Q = Rn (zG xl) 139 54 [v0, v1, v2, v3, v4, v5, v6, v7, v8, v9] (.ref 83 :: st) I J Q := (rGf f139_51 rfl).trans (tr_and rfl)
theorem x139_54 : Rn S 139 54 [v0, v1, .int a, v3, v4, v5, v6, v7, v8, v9] st I J Q = Rn S 139 55 [v0, v1, .int a, v3, v4, v5, v6, v7, v8, v9] (.int a :: st) I J Q := rL f139_54 rfl rfl
theorem x139_55 : Rn S 139 55 [v0, v1, v2, v3, v4, v5, v6, v7, v8, v9] (.int a :: .ref q :: st) I J Q = (zab S q a ∧ Rn S 139 56 [v0, v1, v2, v3, v4, v5, v6, v7, v8, v9] (.int (zbv S I q a.toNatClampNeg) :: st) I J Q) := rBal f139_55
theorem x139_56 : Rn S 139 56 [v0, v1, v2, v3, v4, v5, v6, v7, v8, v9] (.int a :: st) I J Q = if a = 0 then Rn S 139 60 [v0, v1, v2, v3, v4, v5, v6, v7, v8, v9] st I J Q else Rn S 139 59 [v0, v1, v2, v3, v4, v5, v6, v7, v8, v9] st I J Q := rIeq f139_56 rfl rfl
theorem x139_59 : Rn S 139 59 [v0, v1, v2, v3, v4, v5, v6, v7, v8, v9] [] I J Q = Q none I J := rR f139_59 rfl rfl rfl rfl rfl
theorem x139_60 : Rn S 139 60 [.ref q, v1, v2, v3, v4, v5, v6, v7, v8, v9] st I J Q = Rn S 139 61 [.ref q, v1, v2, v3, v4, v5, v6, v7, v8, v9] (.ref q :: st) I J Q := rL f139_60 rfl rfl
theorem x139_61_65 : Rn (zG xl) 139 61 [v0, v1, v2, v3, v4, v5, v6, v7, v8, v9] (.ref 65 :: st) I J Q = Rn (zG xl) 139 64 [v0, v1, v2, v3, v4, v5, v6, v7, v8, v9] (.ref 73 :: st) I J Q := (rGf f139_61 rfl).trans (tr_and rfl)
theorem x139_64 : Rn S 139 64 [v0, v1, v2, v3, v4, v5, v6, v7, v8, v9] st I J Q = Rn S 139 65 [v0, v1, v2, v3, v4, v5, v6, v7, v8, v9] (.int 2 :: st) I J Q := rS f139_64 rfl
theorem x139_65 : Rn S 139 65 [v0, v1, .int a, v3, v4, v5, v6, v7, v8, v9] st I J Q = Rn S 139 66 [v0, v1, .int a, v3, v4, v5, v6, v7, v8, v9] (.int a :: st) I J Q := rL f139_65 rfl rfl
theorem x139_66 : Rn S 139 66 [v0, v1, v2, v3, v4, v5, v6, v7, v8, v9] (.int b :: .int a :: st) I J Q = Rn S 139 67 [v0, v1, v2, v3, v4, v5, v6, v7, v8, v9] (.int (a * b) :: st) I J Q := rS f139_66 rfl
theorem x139_67 : Rn S 139 67 [v0, v1, v2, v3, v4, v5, v6, v7, v8, v9] (.int a :: .ref q :: st) I J Q = (zai S q a ∧ Rn S 139 68 [v0, v1, v2, v3, v4, v5, v6, v7, v8, v9] (.int (I q a.toNatClampNeg) :: st) I J Q) := rIal f139_67
theorem x139_68 : Rn S 139 68 [v0, v1, v2, v3, v4, v5, v6, v7, v8, v9] (.int a :: st) I J Q = Rn S 139 70 [v0, v1, v2, zkl v3, .int a, v5, v6, v7, v8, v9] st I J Q := rL f139_68 rfl rfl
theorem x139_70 : Rn S 139 70 [.ref q, v1, v2, v3, v4, v5, v6, v7, v8, v9] st I J Q = Rn S 139 71 [.ref q, v1, v2, v3, v4, v5, v6, v7, v8, v9] (.ref q :: st) I J Q := rL f139_70 rfl rfl
theorem x139_71_65 : Rn (zG xl) 139 71 [v0, v1, v2, v3, v4, v5, v6, v7, v8, v9] (.ref 65 :: st) I J Q = Rn (zG xl) 139 74 [v0, v1, v2, v3, v4, v5, v6, v7, v8, v9] (.ref 78 :: st) I J Q := (rGf f139_71 rfl).trans (tr_and rfl)
theorem x139_74 : Rn S 139 74 [v0, v1, .int a, v3, v4, v5, v6, v7, v8, v9] st I J Q = Rn S 139 75 [v0, v1, .int a, v3, v4, v5, v6, v7, v8, v9] (.int a :: st) I J Q := rL f139_74 rfl rfl
theorem x139_75 : Rn S 139 75 [v0, v1, v2, v3, v4, v5, v6, v7, v8, v9] (.int a :: .ref q :: st) I J Q = (zai S q a ∧ Rn S 139 76 [v0, v1, v2, v3, v4, v5, v6, v7, v8, v9] (.int (I q a.toNatClampNeg) :: st) I J Q) := rIal f139_75
theorem x139_76 : Rn S 139 76 [v0, v1, v2, v3, v4, v5, v6, v7, v8, v9] (.int a :: st) I J Q = Rn S 139 78 [v0, v1, v2, v3, zkl v4, .int a, v6, v7, v8, v9] st I J Q := rL f139_76 rfl rfl
theorem x139_78 : Rn S 139 78 [v0, v1, v2, v3, .int a, v5, v6, v7, v8, v9] st I J Q = Rn S 139 80 [v0, v1, v2, v3, .int a, v5, v6, v7, v8, v9] (.int a :: st) I J Q := rL f139_78 rfl rfl
theorem x139_80 : Rn S 139 80 [v0, v1, v2, v3, v4, v5, v6, v7, v8, v9] (.int a :: st) I J Q = if a = 0 then Rn S 139 83 [v0, v1, v2, v3, v4, v5, v6, v7, v8, v9] st I J Q else Rn S 139 90 [v0, v1, v2, v3, v4, v5, v6, v7, v8, v9] st I J Q := rIne f139_80 rfl rfl
theorem x139_83 : Rn S 139 83 [v0, v1, v2, v3, v4, .int a, v6, v7, v8, v9] st I J Q = Rn S 139 85 [v0, v1, v2, v3, v4, .int a, v6, v7, v8, v9] (.int a :: st) I J Q := rL f139_83 rfl rfl
theorem x139_85 : Rn S 139 85 [v0, v1, v2, v3, v4, v5, v6, v7, v8, v9] st I J Q = Rn S 139 86 [v0, v1, v2, v3, v4, v5, v6, v7, v8, v9] (.int 1 :: st) I J Q := rS f139_85 rfl
theorem x139_86 : Rn S 139 86 [v0, v1, v2, v3, v4, v5, v6, v7, v8, v9] (.int b :: .int a :: st) I J Q = Rn S 139 87 [v0, v1, v2, v3, v4, v5, v6, v7, v8, v9] (.int (a + b) :: st) I J Q := rS f139_86 rfl
theorem x139_87 : Rn S 139 87 [v0, v1, v2, v3, v4, v5, v6, v7, v8, v9] st I J Q = Rn S 139 92 [v0, v1, v2, v3, v4, v5, v6, v7, v8, v9] st I J Q := rB f139_87 rfl rfl rfl
theorem x139_90 : Rn S 139 90 [v0, v1, v2, v3, v4, .int a, v6, v7, v8, v9] st I J Q = Rn S 139 92 [v0, v1, v2, v3, v4, .int a, v6, v7, v8, v9] (.int a :: st) I J Q := rL f139_90 rfl rfl
theorem x139_92 : Rn S 139 92 [v0, v1, v2, v3, v4, v5, v6, v7, v8, v9] (.int a :: st) I J Q = Rn S 139 94 [v0, v1, v2, v3, v4, zkl v5, .int a, v7, v8, v9] st I J Q := rL f139_92 rfl rfl
theorem x139_94 : Rn S 139 94 [v0, v1, v2, v3, v4, v5, .int a, v7, v8, v9] st I J Q = Rn S 139 96 [v0, v1, v2, v3, v4, v5, .int a, v7, v8, v9] (.int a :: st) I J Q := rL f139_94 rfl rfl
theorem x139_96 : Rn S 139 96 [.ref q, v1, v2, v3, v4, v5, v6, v7, v8, v9] st I J Q = Rn S 139 97 [.ref q, v1, v2, v3, v4, v5, v6, v7, v8, v9] (.ref q :: st) I J Q := rL f139_96 rfl rfl
theorem x139_97_65 : Rn (zG xl) 139 97 [v0, v1, v2, v3, v4, v5, v6, v7, v8, v9] (.ref 65 :: st) I J Q = Rn (zG xl) 139 100 [v0, v1, v2, v3, v4, v5, v6, v7, v8, v9] (.int (I 65 13) :: st) I J Q := (rGf f139_97 rfl).trans (tr_and rfl)
theorem x139_100 : Rn S 139 100 [v0, v1, v2, v3, v4, v5, v6, v7, v8, v9] (.int b :: .int a :: st) I J Q = if a < b then Rn S 139 111 [v0, v1, v2, v3, v4, v5, v6, v7, v8, v9] st I J Q else Rn S 139 103 [v0, v1, v2, v3, v4, v5, v6, v7, v8, v9] st I J Q := rClt f139_100 rfl rfl
theorem x139_103 : Rn S 139 103 [.ref q, v1, v2, v3, v4, v5, v6, v7, v8, v9] st I J Q = Rn S 139 104 [.ref q, v1, v2, v3, v4, v5, v6, v7, v8, v9] (.ref q :: st) I J Q := rL f139_103 rfl rfl
theorem x139_104_65 : Rn (zG xl) 139 104 [v0, v1, v2, v3, v4, v5, v6, v7, v8, v9] (.ref 65 :: st) I J Q = Rn (zG xl) 139 107 [v0, v1, v2, v3, v4, v5, v6, v7, v8, v9] (.ref 83 :: st) I J Q := (rGf f139_104 rfl).trans (tr_and rfl)
theorem x139_107 : Rn S 139 107 [v0, v1, .int a, v3, v4, v5, v6, v7, v8, v9] st I J Q = Rn S 139 108 [v0, v1, .int a, v3, v4, v5, v6, v7, v8, v9] (.int a :: st) I J Q := rL f139_107 rfl rfl
theorem x139_108 : Rn S 139 108 [v0, v1, v2, v3, v4, v5, v6, v7, v8, v9] st I J Q = Rn S 139 109 [v0, v1, v2, v3, v4, v5, v6, v7, v8, v9] (.int 1 :: st) I J Q := rS f139_108 rfl
theorem x139_109 : Rn S 139 109 [v0, v1, v2, v3, v4, v5, v6, v7, v8, v9] (.int b :: .int a :: .ref q :: st) I J Q = ((zac S q a ∧ (b = 0 ∨ b = 1)) ∧ Rn S 139 110 [v0, v1, v2, v3, v4, v5, v6, v7, v8, v9] st (zr I q (upd (I q) a.toNatClampNeg b)) J Q) := rBas f139_109
theorem x139_110 : Rn S 139 110 [v0, v1, v2, v3, v4, v5, v6, v7, v8, v9] [] I J Q = Q none I J := rR f139_110 rfl rfl rfl rfl rfl
theorem x139_111 : Rn S 139 111 [.ref q, v1, v2, v3, v4, v5, v6, v7, v8, v9] st I J Q = Rn S 139 112 [.ref q, v1, v2, v3, v4, v5, v6, v7, v8, v9] (.ref q :: st) I J Q := rL f139_111 rfl rfl
theorem x139_112_65 : Rn (zG xl) 139 112 [v0, v1, v2, v3, v4, v5, v6, v7, v8, v9] (.ref 65 :: st) I J Q = Rn (zG xl) 139 115 [v0, v1, v2, v3, v4, v5, v6, v7, v8, v9] (.ref 76 :: st) I J Q := (rGf f139_112 rfl).trans (tr_and rfl)
theorem x139_115 : Rn S 139 115 [v0, .int a, v2, v3, v4, v5, v6, v7, v8, v9] st I J Q = Rn S 139 116 [v0, .int a, v2, v3, v4, v5, v6, v7, v8, v9] (.int a :: st) I J Q := rL f139_115 rfl rfl
theorem x139_116 : Rn S 139 116 [v0, v1, v2, v3, v4, .int a, v6, v7, v8, v9] st I J Q = Rn S 139 118 [v0, v1, v2, v3, v4, .int a, v6, v7, v8, v9] (.int a :: st) I J Q := rL f139_116 rfl rfl
theorem x139_118 : Rn S 139 118 [v0, v1, v2, v3, v4, v5, v6, v7, v8, v9] (.int b :: .int a :: .ref q :: st) I J Q = (zas S q a ∧ Rn S 139 119 [v0, v1, v2, v3, v4, v5, v6, v7, v8, v9] st (zr I q (upd (I q) a.toNatClampNeg b)) J Q) := rIas f139_118
theorem x139_119 : Rn S 139 119 [.ref q, v1, v2, v3, v4, v5, v6, v7, v8, v9] st I J Q = Rn S 139 120 [.ref q, v1, v2, v3, v4, v5, v6, v7, v8, v9] (.ref q :: st) I J Q := rL f139_119 rfl rfl
theorem x139_120_65 : Rn (zG xl) 139 120 [v0, v1, v2, v3, v4, v5, v6, v7, v8, v9] (.ref 65 :: st) I J Q = Rn (zG xl) 139 123 [v0, v1, v2, v3, v4, v5, v6, v7, v8, v9] (.ref 79 :: st) I J Q := (rGf f139_120 rfl).trans (tr_and rfl)
theorem x139_123 : Rn S 139 123 [v0, v1, .int a, v3, v4, v5, v6, v7, v8, v9] st I J Q = Rn S 139 124 [v0, v1, .int a, v3, v4, v5, v6, v7, v8, v9] (.int a :: st) I J Q := rL f139_123 rfl rfl
theorem x139_124 : Rn S 139 124 [.ref q, v1, v2, v3, v4, v5, v6, v7, v8, v9] st I J Q = Rn S 139 125 [.ref q, v1, v2, v3, v4, v5, v6, v7, v8, v9] (.ref q :: st) I J Q := rL f139_124 rfl rfl
theorem x139_125_65 : Rn (zG xl) 139 125 [v0, v1, v2, v3, v4, v5, v6, v7, v8, v9] (.ref 65 :: st) I J Q = Rn (zG xl) 139 128 [v0, v1, v2, v3, v4, v5, v6, v7, v8, v9] (.ref 79 :: st) I J Q := (rGf f139_125 rfl).trans (tr_and rfl)
theorem x139_128 : Rn S 139 128 [v0, v1, .int a, v3, v4, v5, v6, v7, v8, v9] st I J Q = Rn S 139 129 [v0, v1, .int a, v3, v4, v5, v6, v7, v8, v9] (.int a :: st) I J Q := rL f139_128 rfl rfl
theorem x139_129 : Rn S 139 129 [v0, v1, v2, v3, v4, v5, v6, v7, v8, v9] (.int a :: .ref q :: st) I J Q = (zai S q a ∧ Rn S 139 130 [v0, v1, v2, v3, v4, v5, v6, v7, v8, v9] (.int (I q a.toNatClampNeg) :: st) I J Q) := rIal f139_129
theorem x139_130 : Rn S 139 130 [v0, v1, v2, v3, v4, v5, v6, v7, v8, v9] st I J Q = Rn S 139 131 [v0, v1, v2, v3, v4, v5, v6, v7, v8, v9] (.int 3 :: st) I J Q := rS f139_130 rfl
theorem x139_131 : Rn S 139 131 [.ref q, v1, v2, v3, v4, v5, v6, v7, v8, v9] st I J Q = Rn S 139 132 [.ref q, v1, v2, v3, v4, v5, v6, v7, v8, v9] (.ref q :: st) I J Q := rL f139_131 rfl rfl
theorem x139_132 : Rn S 139 132 [v0, v1, v2, v3, v4, v5, v6, v7, v8, v9] st I J Q = Rn S 139 133 [v0, v1, v2, v3, v4, v5, v6, v7, v8, v9] (.int 1 :: st) I J Q := rS f139_132 rfl
theorem x139_133 : Rn S 139 133 [v0, v1, .int a, v3, v4, v5, v6, v7, v8, v9] st I J Q = Rn S 139 134 [v0, v1, .int a, v3, v4, v5, v6, v7, v8, v9] (.int a :: st) I J Q := rL f139_133 rfl rfl
theorem x139_134 : Rn S 139 134 [.ref q, v1, v2, v3, v4, v5, v6, v7, v8, v9] st I J Q = Rn S 139 135 [.ref q, v1, v2, v3, v4, v5, v6, v7, v8, v9] (.ref q :: st) I J Q := rL f139_134 rfl rfl
theorem x139_135_65 : Rn (zG xl) 139 135 [v0, v1, v2, v3, v4, v5, v6, v7, v8, v9] (.ref 65 :: st) I J Q = Rn (zG xl) 139 138 [v0, v1, v2, v3, v4, v5, v6, v7, v8, v9] (.ref 82 :: st) I J Q := (rGf f139_135 rfl).trans (tr_and rfl)
theorem x139_138 : Rn S 139 138 [v0, v1, .int a, v3, v4, v5, v6, v7, v8, v9] st I J Q = Rn S 139 139 [v0, v1, .int a, v3, v4, v5, v6, v7, v8, v9] (.int a :: st) I J Q := rL f139_138 rfl rfl
theorem x139_139 : Rn S 139 139 [v0, v1, v2, v3, v4, v5, v6, v7, v8, v9] (.int a :: .ref q :: st) I J Q = (zai S q a ∧ Rn S 139 140 [v0, v1, v2, v3, v4, v5, v6, v7, v8, v9] (.int (I q a.toNatClampNeg) :: st) I J Q) := rIal f139_139
theorem x139_140 : Rn S 139 140 [v0, v1, v2, v3, v4, v5, v6, v7, v8, v9] st I J Q = Rn S 139 141 [v0, v1, v2, v3, v4, v5, v6, v7, v8, v9] (.int 1 :: st) I J Q := rS f139_140 rfl
theorem x139_141 : Rn S 139 141 [v0, v1, v2, v3, v4, v5, v6, v7, v8, v9] (.int b :: .int a :: st) I J Q = Rn S 139 142 [v0, v1, v2, v3, v4, v5, v6, v7, v8, v9] (.int (a + b) :: st) I J Q := rS f139_141 rfl
theorem x139_142 : Rn S 139 142 [v0, v1, v2, v3, v4, .int a, v6, v7, v8, v9] st I J Q = Rn S 139 144 [v0, v1, v2, v3, v4, .int a, v6, v7, v8, v9] (.int a :: st) I J Q := rL f139_142 rfl rfl
theorem x139_144 : Rn S 139 144 [v0, v1, v2, v3, v4, v5, v6, v7, v8, v9] (.int a3 :: .int a2 :: .int a1 :: .int a0 :: .ref q :: st) I J Q = ((zcls S q = 6 ∧ zcs st ≤ 8) ∧ Rn S 138 0 [.ref q, .int a0, .int a1, .int a2, .int a3, .null, .null] [] I J (fun v I' J' => Rn S 139 147 [v0, v1, v2, v3, v4, v5, v6, v7, v8, v9] (v.toList ++ st) I' J' Q)) := rCV (As := [.int a0, .int a1, .int a2, .int a3]) f139_144 rfl rfl rfl rfl (Nat.le_of_ble_eq_true rfl)
theorem x139_147 : Rn S 139 147 [v0, v1, v2, v3, v4, v5, v6, v7, v8, v9] (.int b :: .int a :: st) I J Q = Rn S 139 148 [v0, v1, v2, v3, v4, v5, v6, v7, v8, v9] (.int (a * b) :: st) I J Q := rS f139_147 rfl
theorem x139_148 : Rn S 139 148 [v0, v1, v2, v3, v4, v5, v6, v7, v8, v9] (.int b :: .int a :: st) I J Q = Rn S 139 149 [v0, v1, v2, v3, v4, v5, v6, v7, v8, v9] (.int (a - b) :: st) I J Q := rS f139_148 rfl
theorem x139_149 : Rn S 139 149 [v0, v1, v2, v3, v4, v5, v6, v7, v8, v9] st I J Q = Rn S 139 150 [v0, v1, v2, v3, v4, v5, v6, v7, v8, v9] (.int 0 :: st) I J Q := rS f139_149 rfl
theorem x139_150 : Rn S 139 150 [v0, v1, v2, v3, v4, v5, v6, v7, v8, v9] (.int a1 :: .int a0 :: st) I J Q = (zcs st ≤ 8 ∧ Rn S 102 0 [.int a0, .int a1] [] I J (fun v I' J' => Rn S 139 153 [v0, v1, v2, v3, v4, v5, v6, v7, v8, v9] (v.toList ++ st) I' J' Q)) := rCS (As := [.int a0, .int a1]) f139_150 rfl rfl rfl rfl (Nat.le_of_ble_eq_true rfl)
theorem x139_153 : Rn S 139 153 [v0, v1, v2, v3, v4, v5, v6, v7, v8, v9] (.int b :: .int a :: .ref q :: st) I J Q = (zas S q a ∧ Rn S 139 154 [v0, v1, v2, v3, v4, v5, v6, v7, v8, v9] st (zr I q (upd (I q) a.toNatClampNeg b)) J Q) := rIas f139_153
theorem x139_154 : Rn S 139 154 [.ref q, v1, v2, v3, v4, v5, v6, v7, v8, v9] st I J Q = Rn S 139 155 [.ref q, v1, v2, v3, v4, v5, v6, v7, v8, v9] (.ref q :: st) I J Q := rL f139_154 rfl rfl
theorem x139_155_65 : Rn (zG xl) 139 155 [v0, v1, v2, v3, v4, v5, v6, v7, v8, v9] (.ref 65 :: st) I J Q = Rn (zG xl) 139 158 [v0, v1, v2, v3, v4, v5, v6, v7, v8, v9] (.ref 73 :: st) I J Q := (rGf f139_155 rfl).trans (tr_and rfl)
theorem x139_158 : Rn S 139 158 [v0, v1, v2, v3, v4, v5, v6, v7, v8, v9] st I J Q = Rn S 139 159 [v0, v1, v2, v3, v4, v5, v6, v7, v8, v9] (.int 2 :: st) I J Q := rS f139_158 rfl
theorem x139_159 : Rn S 139 159 [v0, v1, .int a, v3, v4, v5, v6, v7, v8, v9] st I J Q = Rn S 139 160 [v0, v1, .int a, v3, v4, v5, v6, v7, v8, v9] (.int a :: st) I J Q := rL f139_159 rfl rfl
theorem x139_160 : Rn S 139 160 [v0, v1, v2, v3, v4, v5, v6, v7, v8, v9] (.int b :: .int a :: st) I J Q = Rn S 139 161 [v0, v1, v2, v3, v4, v5, v6, v7, v8, v9] (.int (a * b) :: st) I J Q := rS f139_160 rfl
theorem x139_161 : Rn S 139 161 [v0, v1, v2, v3, v4, v5, v6, v7, v8, v9] st I J Q = Rn S 139 162 [v0, v1, v2, v3, v4, v5, v6, v7, v8, v9] (.int 1 :: st) I J Q := rS f139_161 rfl
theorem x139_162 : Rn S 139 162 [v0, v1, v2, v3, v4, v5, v6, v7, v8, v9] (.int b :: .int a :: st) I J Q = Rn S 139 163 [v0, v1, v2, v3, v4, v5, v6, v7, v8, v9] (.int (a + b) :: st) I J Q := rS f139_162 rfl
theorem x139_163 : Rn S 139 163 [v0, v1, v2, v3, v4, v5, v6, v7, v8, v9] (.int a :: .ref q :: st) I J Q = (zai S q a ∧ Rn S 139 164 [v0, v1, v2, v3, v4, v5, v6, v7, v8, v9] (.int (I q a.toNatClampNeg) :: st) I J Q) := rIal f139_163
theorem x139_164 : Rn S 139 164 [v0, v1, v2, v3, .int a, v5, v6, v7, v8, v9] st I J Q = Rn S 139 166 [v0, v1, v2, v3, .int a, v5, v6, v7, v8, v9] (.int a :: st) I J Q := rL f139_164 rfl rfl
theorem x139_166 : Rn S 139 166 [v0, v1, v2, v3, v4, v5, v6, v7, v8, v9] (.int a :: st) I J Q = if a = 0 then Rn S 139 169 [v0, v1, v2, v3, v4, v5, v6, v7, v8, v9] st I J Q else Rn S 139 173 [v0, v1, v2, v3, v4, v5, v6, v7, v8, v9] st I J Q := rIne f139_166 rfl rfl
theorem x139_169 : Rn S 139 169 [v0, v1, v2, v3, v4, v5, v6, v7, v8, v9] st I J Q = Rn S 139 170 [v0, v1, v2, v3, v4, v5, v6, v7, v8, v9] (.int 2 :: st) I J Q := rS f139_169 rfl
theorem x139_170 : Rn S 139 170 [v0, v1, v2, v3, v4, v5, v6, v7, v8, v9] st I J Q = Rn S 139 174 [v0, v1, v2, v3, v4, v5, v6, v7, v8, v9] st I J Q := rB f139_170 rfl rfl rfl
theorem x139_173 : Rn S 139 173 [v0, v1, v2, v3, v4, v5, v6, v7, v8, v9] st I J Q = Rn S 139 174 [v0, v1, v2, v3, v4, v5, v6, v7, v8, v9] (.int 0 :: st) I J Q := rS f139_173 rfl
theorem x139_174 : Rn S 139 174 [v0, v1, v2, v3, v4, v5, v6, v7, v8, v9] (.int b :: .int a :: st) I J Q = Rn S 139 175 [v0, v1, v2, v3, v4, v5, v6, v7, v8, v9] (.int (a + b) :: st) I J Q := rS f139_174 rfl
theorem x139_175 : Rn S 139 175 [.ref q, v1, v2, v3, v4, v5, v6, v7, v8, v9] st I J Q = Rn S 139 176 [.ref q, v1, v2, v3, v4, v5, v6, v7, v8, v9] (.ref q :: st) I J Q := rL f139_175 rfl rfl
theorem x139_176_65 : Rn (zG xl) 139 176 [v0, v1, v2, v3, v4, v5, v6, v7, v8, v9] (.ref 65 :: st) I J Q = Rn (zG xl) 139 179 [v0, v1, v2, v3, v4, v5, v6, v7, v8, v9] (.ref 79 :: st) I J Q := (rGf f139_176 rfl).trans (tr_and rfl)
theorem x139_179 : Rn S 139 179 [v0, v1, .int a, v3, v4, v5, v6, v7, v8, v9] st I J Q = Rn S 139 180 [v0, v1, .int a, v3, v4, v5, v6, v7, v8, v9] (.int a :: st) I J Q := rL f139_179 rfl rfl
theorem x139_180 : Rn S 139 180 [v0, v1, v2, v3, v4, v5, v6, v7, v8, v9] (.int a :: .ref q :: st) I J Q = (zai S q a ∧ Rn S 139 181 [v0, v1, v2, v3, v4, v5, v6, v7, v8, v9] (.int (I q a.toNatClampNeg) :: st) I J Q) := rIal f139_180
theorem x139_181 : Rn S 139 181 [v0, v1, v2, v3, v4, v5, v6, v7, v8, v9] (.int b :: .int a :: st) I J Q = Rn S 139 182 [v0, v1, v2, v3, v4, v5, v6, v7, v8, v9] (.int (a - b) :: st) I J Q := rS f139_181 rfl
theorem x139_182 : Rn S 139 182 [v0, v1, v2, v3, v4, v5, v6, v7, v8, v9] (.int a :: st) I J Q = Rn S 139 184 [v0, v1, v2, v3, v4, v5, zkl v6, .int a, v8, v9] st I J Q := rL f139_182 rfl rfl
theorem x139_184 : Rn S 139 184 [v0, v1, v2, v3, .int a, v5, v6, v7, v8, v9] st I J Q = Rn S 139 186 [v0, v1, v2, v3, .int a, v5, v6, v7, v8, v9] (.int a :: st) I J Q := rL f139_184 rfl rfl
theorem x139_186 : Rn S 139 186 [v0, v1, v2, v3, v4, v5, v6, v7, v8, v9] st I J Q = Rn S 139 187 [v0, v1, v2, v3, v4, v5, v6, v7, v8, v9] (.int 2 :: st) I J Q := rS f139_186 rfl
theorem x139_187 : Rn S 139 187 [v0, v1, v2, v3, v4, v5, v6, v7, v8, v9] (.int b :: .int a :: st) I J Q = if a = b then Rn S 139 190 [v0, v1, v2, v3, v4, v5, v6, v7, v8, v9] st I J Q else Rn S 139 208 [v0, v1, v2, v3, v4, v5, v6, v7, v8, v9] st I J Q := rCne f139_187 rfl rfl
theorem x139_190 : Rn S 139 190 [.ref q, v1, v2, v3, v4, v5, v6, v7, v8, v9] st I J Q = Rn S 139 191 [.ref q, v1, v2, v3, v4, v5, v6, v7, v8, v9] (.ref q :: st) I J Q := rL f139_190 rfl rfl
theorem x139_191_65 : Rn (zG xl) 139 191 [v0, v1, v2, v3, v4, v5, v6, v7, v8, v9] (.ref 65 :: st) I J Q = Rn (zG xl) 139 194 [v0, v1, v2, v3, v4, v5, v6, v7, v8, v9] (.ref 72 :: st) I J Q := (rGf f139_191 rfl).trans (tr_and rfl)
theorem x139_194 : Rn S 139 194 [v0, v1, v2, v3, v4, v5, v6, v7, v8, v9] st I J Q = Rn S 139 195 [v0, v1, v2, v3, v4, v5, v6, v7, v8, v9] (.int 2 :: st) I J Q := rS f139_194 rfl
theorem x139_195 : Rn S 139 195 [v0, v1, v2, .int a, v4, v5, v6, v7, v8, v9] st I J Q = Rn S 139 196 [v0, v1, v2, .int a, v4, v5, v6, v7, v8, v9] (.int a :: st) I J Q := rL f139_195 rfl rfl
theorem x139_196 : Rn S 139 196 [v0, v1, v2, v3, v4, v5, v6, v7, v8, v9] (.int b :: .int a :: st) I J Q = Rn S 139 197 [v0, v1, v2, v3, v4, v5, v6, v7, v8, v9] (.int (a * b) :: st) I J Q := rS f139_196 rfl
theorem x139_197 : Rn S 139 197 [v0, v1, v2, v3, v4, v5, v6, v7, v8, v9] st I J Q = Rn S 139 198 [v0, v1, v2, v3, v4, v5, v6, v7, v8, v9] (.int 1 :: st) I J Q := rS f139_197 rfl
theorem x139_198 : Rn S 139 198 [v0, v1, v2, v3, v4, v5, v6, v7, v8, v9] (.int b :: .int a :: st) I J Q = Rn S 139 199 [v0, v1, v2, v3, v4, v5, v6, v7, v8, v9] (.int (a + b) :: st) I J Q := rS f139_198 rfl
theorem x139_199 : Rn S 139 199 [v0, v1, v2, v3, v4, v5, v6, v7, v8, v9] (.int a :: .ref q :: st) I J Q = (zai S q a ∧ Rn S 139 200 [v0, v1, v2, v3, v4, v5, v6, v7, v8, v9] (.int (I q a.toNatClampNeg) :: st) I J Q) := rIal f139_199
theorem x139_200 : Rn S 139 200 [v0, v1, v2, v3, v4, v5, v6, v7, v8, v9] st I J Q = Rn S 139 201 [v0, v1, v2, v3, v4, v5, v6, v7, v8, v9] (.int 3 :: st) I J Q := rS f139_200 rfl
theorem x139_201 : Rn S 139 201 [v0, v1, v2, v3, v4, v5, v6, v7, v8, v9] (.int b :: .int a :: st) I J Q = if a < b then Rn S 139 204 [v0, v1, v2, v3, v4, v5, v6, v7, v8, v9] st I J Q else Rn S 139 208 [v0, v1, v2, v3, v4, v5, v6, v7, v8, v9] st I J Q := rCge f139_201 rfl rfl
theorem x139_204 : Rn S 139 204 [v0, v1, v2, v3, v4, v5, v6, v7, v8, v9] st I J Q = Rn S 139 205 [v0, v1, v2, v3, v4, v5, v6, v7, v8, v9] (.int 1 :: st) I J Q := rS f139_204 rfl
theorem x139_205 : Rn S 139 205 [v0, v1, v2, v3, v4, v5, v6, v7, v8, v9] st I J Q = Rn S 139 209 [v0, v1, v2, v3, v4, v5, v6, v7, v8, v9] st I J Q := rB f139_205 rfl rfl rfl
theorem x139_208 : Rn S 139 208 [v0, v1, v2, v3, v4, v5, v6, v7, v8, v9] st I J Q = Rn S 139 209 [v0, v1, v2, v3, v4, v5, v6, v7, v8, v9] (.int 0 :: st) I J Q := rS f139_208 rfl
theorem x139_209 : Rn S 139 209 [v0, v1, v2, v3, v4, v5, v6, v7, v8, v9] (.int a :: st) I J Q = Rn S 139 211 [v0, v1, v2, v3, v4, v5, v6, zkl v7, .int a, v9] st I J Q := rL f139_209 rfl rfl
theorem x139_211 : Rn S 139 211 [.ref q, v1, v2, v3, v4, v5, v6, v7, v8, v9] st I J Q = Rn S 139 212 [.ref q, v1, v2, v3, v4, v5, v6, v7, v8, v9] (.ref q :: st) I J Q := rL f139_211 rfl rfl
theorem x139_212_65 : Rn (zG xl) 139 212 [v0, v1, v2, v3, v4, v5, v6, v7, v8, v9] (.ref 65 :: st) I J Q = Rn (zG xl) 139 215 [v0, v1, v2, v3, v4, v5, v6, v7, v8, v9] (.ref 77 :: st) I J Q := (rGf f139_212 rfl).trans (tr_and rfl)
theorem x139_215 : Rn S 139 215 [v0, .int a, v2, v3, v4, v5, v6, v7, v8, v9] st I J Q = Rn S 139 216 [v0, .int a, v2, v3, v4, v5, v6, v7, v8, v9] (.int a :: st) I J Q := rL f139_215 rfl rfl
theorem x139_216 : Rn S 139 216 [.ref q, v1, v2, v3, v4, v5, v6, v7, v8, v9] st I J Q = Rn S 139 217 [.ref q, v1, v2, v3, v4, v5, v6, v7, v8, v9] (.ref q :: st) I J Q := rL f139_216 rfl rfl
theorem x139_217 : Rn S 139 217 [v0, v1, v2, v3, v4, v5, v6, v7, v8, v9] st I J Q = Rn S 139 218 [v0, v1, v2, v3, v4, v5, v6, v7, v8, v9] (.int 0 :: st) I J Q := rS f139_217 rfl
theorem x139_218 : Rn S 139 218 [v0, v1, .int a, v3, v4, v5, v6, v7, v8, v9] st I J Q = Rn S 139 219 [v0, v1, .int a, v3, v4, v5, v6, v7, v8, v9] (.int a :: st) I J Q := rL f139_218 rfl rfl
theorem x139_219 : Rn S 139 219 [v0, v1, v2, v3, v4, .int a, v6, v7, v8, v9] st I J Q = Rn S 139 221 [v0, v1, v2, v3, v4, .int a, v6, v7, v8, v9] (.int a :: st) I J Q := rL f139_219 rfl rfl
theorem x139_221 : Rn S 139 221 [v0, v1, v2, v3, v4, v5, .int a, v7, v8, v9] st I J Q = Rn S 139 223 [v0, v1, v2, v3, v4, v5, .int a, v7, v8, v9] (.int a :: st) I J Q := rL f139_221 rfl rfl
theorem x139_223 : Rn S 139 223 [v0, v1, v2, v3, v4, v5, v6, v7, v8, v9] (.int a3 :: .int a2 :: .int a1 :: .int a0 :: .ref q :: st) I J Q = ((zcls S q = 6 ∧ zcs st ≤ 8) ∧ Rn S 138 0 [.ref q, .int a0, .int a1, .int a2, .int a3, .null, .null] [] I J (fun v I' J' => Rn S 139 226 [v0, v1, v2, v3, v4, v5, v6, v7, v8, v9] (v.toList ++ st) I' J' Q)) := rCV (As := [.int a0, .int a1, .int a2, .int a3]) f139_223 rfl rfl rfl rfl (Nat.le_of_ble_eq_true rfl)
theorem x139_226 : Rn S 139 226 [v0, v1, v2, v3, v4, v5, v6, v7, v8, v9] (.int a :: st) I J Q = if a = 0 then Rn S 139 229 [v0, v1, v2, v3, v4, v5, v6, v7, v8, v9] st I J Q else Rn S 139 249 [v0, v1, v2, v3, v4, v5, v6, v7, v8, v9] st I J Q := rIne f139_226 rfl rfl
theorem x139_229 : Rn S 139 229 [v0, v1, v2, v3, v4, v5, v6, .int a, v8, v9] st I J Q = Rn S 139 231 [v0, v1, v2, v3, v4, v5, v6, .int a, v8, v9] (.int a :: st) I J Q := rL f139_229 rfl rfl
theorem x139_231 : Rn S 139 231 [.ref q, v1, v2, v3, v4, v5, v6, v7, v8, v9] st I J Q = Rn S 139 232 [.ref q, v1, v2, v3, v4, v5, v6, v7, v8, v9] (.ref q :: st) I J Q := rL f139_231 rfl rfl
theorem x139_232 : Rn S 139 232 [v0, v1, v2, .int a, v4, v5, v6, v7, v8, v9] st I J Q = Rn S 139 233 [v0, v1, v2, .int a, v4, v5, v6, v7, v8, v9] (.int a :: st) I J Q := rL f139_232 rfl rfl
theorem x139_233 : Rn S 139 233 [v0, v1, v2, v3, v4, v5, v6, v7, v8, v9] st I J Q = Rn S 139 234 [v0, v1, v2, v3, v4, v5, v6, v7, v8, v9] (.int 2 :: st) I J Q := rS f139_233 rfl
theorem x139_234 : Rn S 139 234 [v0, v1, v2, v3, v4, v5, v6, v7, v8, v9] (.int a1 :: .int a0 :: .ref q :: st) I J Q = ((zcls S q = 6 ∧ zcs st ≤ 8) ∧ Rn S 129 0 [.ref q, .int a0, .int a1] [] I J (fun v I' J' => Rn S 139 237 [v0, v1, v2, v3, v4, v5, v6, v7, v8, v9] (v.toList ++ st) I' J' Q)) := rCV (As := [.int a0, .int a1]) f139_234 rfl rfl rfl rfl (Nat.le_of_ble_eq_true rfl)
theorem x139_237 : Rn S 139 237 [v0, v1, v2, v3, v4, v5, v6, v7, v8, v9] (.int b :: .int a :: st) I J Q = if a < b then Rn S 139 249 [v0, v1, v2, v3, v4, v5, v6, v7, v8, v9] st I J Q else Rn S 139 240 [v0, v1, v2, v3, v4, v5, v6, v7, v8, v9] st I J Q := rClt f139_237 rfl rfl
theorem x139_240 : Rn S 139 240 [v0, v1, v2, v3, v4, v5, v6, v7, .int a, v9] st I J Q = Rn S 139 242 [v0, v1, v2, v3, v4, v5, v6, v7, .int a, v9] (.int a :: st) I J Q := rL f139_240 rfl rfl
theorem x139_242 : Rn S 139 242 [v0, v1, v2, v3, v4, v5, v6, v7, v8, v9] (.int a :: st) I J Q = if a = 0 then Rn S 139 245 [v0, v1, v2, v3, v4, v5, v6, v7, v8, v9] st I J Q else Rn S 139 249 [v0, v1, v2, v3, v4, v5, v6, v7, v8, v9] st I J Q := rIne f139_242 rfl rfl
theorem x139_245 : Rn S 139 245 [v0, v1, v2, v3, v4, v5, v6, v7, v8, v9] st I J Q = Rn S 139 246 [v0, v1, v2, v3, v4, v5, v6, v7, v8, v9] (.int 1 :: st) I J Q := rS f139_245 rfl
theorem x139_246 : Rn S 139 246 [v0, v1, v2, v3, v4, v5, v6, v7, v8, v9] st I J Q = Rn S 139 250 [v0, v1, v2, v3, v4, v5, v6, v7, v8, v9] st I J Q := rB f139_246 rfl rfl rfl
theorem x139_249 : Rn S 139 249 [v0, v1, v2, v3, v4, v5, v6, v7, v8, v9] st I J Q = Rn S 139 250 [v0, v1, v2, v3, v4, v5, v6, v7, v8, v9] (.int 0 :: st) I J Q := rS f139_249 rfl
theorem x139_250 : Rn S 139 250 [v0, v1, v2, v3, v4, v5, v6, v7, v8, v9] (.int b :: .int a :: .ref q :: st) I J Q = ((zac S q a ∧ (b = 0 ∨ b = 1)) ∧ Rn S 139 251 [v0, v1, v2, v3, v4, v5, v6, v7, v8, v9] st (zr I q (upd (I q) a.toNatClampNeg b)) J Q) := rBas f139_250
theorem x139_251 : Rn S 139 251 [.ref q, v1, v2, v3, v4, v5, v6, v7, v8, v9] st I J Q = Rn S 139 252 [.ref q, v1, v2, v3, v4, v5, v6, v7, v8, v9] (.ref q :: st) I J Q := rL f139_251 rfl rfl
theorem x139_252_65 : Rn (zG xl) 139 252 [v0, v1, v2, v3, v4, v5, v6, v7, v8, v9] (.ref 65 :: st) I J Q = Rn (zG xl) 139 255 [v0, v1, v2, v3, v4, v5, v6, v7, v8, v9] (.ref 79 :: st) I J Q := (rGf f139_252 rfl).trans (tr_and rfl)
theorem x139_255 : Rn S 139 255 [v0, v1, .int a, v3, v4, v5, v6, v7, v8, v9] st I J Q = Rn S 139 256 [v0, v1, .int a, v3, v4, v5, v6, v7, v8, v9] (.int a :: st) I J Q := rL f139_255 rfl rfl
theorem x139_256 : Rn S 139 256 [v0, v1, v2, v3, v4, v5, v6, v7, v8, v9] (.int a :: .ref q :: st) I J Q = Rn S 139 257 [v0, v1, v2, v3, v4, v5, v6, v7, v8, v9] (.int a :: .ref q :: .int a :: .ref q :: st) I J Q := rS f139_256 rfl
theorem x139_257 : Rn S 139 257 [v0, v1, v2, v3, v4, v5, v6, v7, v8, v9] (.int a :: .ref q :: st) I J Q = (zai S q a ∧ Rn S 139 258 [v0, v1, v2, v3, v4, v5, v6, v7, v8, v9] (.int (I q a.toNatClampNeg) :: st) I J Q) := rIal f139_257
theorem x139_258 : Rn S 139 258 [v0, v1, v2, v3, .int a, v5, v6, v7, v8, v9] st I J Q = Rn S 139 260 [v0, v1, v2, v3, .int a, v5, v6, v7, v8, v9] (.int a :: st) I J Q := rL f139_258 rfl rfl
theorem x139_260 : Rn S 139 260 [v0, v1, v2, v3, v4, v5, v6, v7, v8, v9] (.int a :: st) I J Q = if a = 0 then Rn S 139 263 [v0, v1, v2, v3, v4, v5, v6, v7, v8, v9] st I J Q else Rn S 139 267 [v0, v1, v2, v3, v4, v5, v6, v7, v8, v9] st I J Q := rIne f139_260 rfl rfl
theorem x139_263 : Rn S 139 263 [v0, v1, v2, v3, v4, v5, v6, v7, v8, v9] st I J Q = Rn S 139 264 [v0, v1, v2, v3, v4, v5, v6, v7, v8, v9] (.int 2 :: st) I J Q := rS f139_263 rfl
theorem x139_264 : Rn S 139 264 [v0, v1, v2, v3, v4, v5, v6, v7, v8, v9] st I J Q = Rn S 139 268 [v0, v1, v2, v3, v4, v5, v6, v7, v8, v9] st I J Q := rB f139_264 rfl rfl rfl
theorem x139_267 : Rn S 139 267 [v0, v1, v2, v3, v4, v5, v6, v7, v8, v9] st I J Q = Rn S 139 268 [v0, v1, v2, v3, v4, v5, v6, v7, v8, v9] (.int 1 :: st) I J Q := rS f139_267 rfl
theorem x139_268 : Rn S 139 268 [v0, v1, v2, v3, v4, v5, v6, v7, v8, v9] (.int b :: .int a :: st) I J Q = Rn S 139 269 [v0, v1, v2, v3, v4, v5, v6, v7, v8, v9] (.int (a + b) :: st) I J Q := rS f139_268 rfl
theorem x139_269 : Rn S 139 269 [v0, v1, v2, v3, v4, v5, v6, v7, v8, v9] (.int b :: .int a :: .ref q :: st) I J Q = (zas S q a ∧ Rn S 139 270 [v0, v1, v2, v3, v4, v5, v6, v7, v8, v9] st (zr I q (upd (I q) a.toNatClampNeg b)) J Q) := rIas f139_269
theorem x139_270 : Rn S 139 270 [.ref q, v1, v2, v3, v4, v5, v6, v7, v8, v9] st I J Q = Rn S 139 271 [.ref q, v1, v2, v3, v4, v5, v6, v7, v8, v9] (.ref q :: st) I J Q := rL f139_270 rfl rfl
theorem x139_271_65 : Rn (zG xl) 139 271 [v0, v1, v2, v3, v4, v5, v6, v7, v8, v9] (.ref 65 :: st) I J Q = Rn (zG xl) 139 274 [v0, v1, v2, v3, v4, v5, v6, v7, v8, v9] (.ref 82 :: st) I J Q := (rGf f139_271 rfl).trans (tr_and rfl)
theorem x139_274 : Rn S 139 274 [v0, v1, .int a, v3, v4, v5, v6, v7, v8, v9] st I J Q = Rn S 139 275 [v0, v1, .int a, v3, v4, v5, v6, v7, v8, v9] (.int a :: st) I J Q := rL f139_274 rfl rfl
theorem x139_275 : Rn S 139 275 [v0, v1, v2, v3, v4, .int a, v6, v7, v8, v9] st I J Q = Rn S 139 277 [v0, v1, v2, v3, v4, .int a, v6, v7, v8, v9] (.int a :: st) I J Q := rL f139_275 rfl rfl
theorem x139_277 : Rn S 139 277 [v0, v1, v2, v3, v4, v5, v6, v7, v8, v9] (.int b :: .int a :: .ref q :: st) I J Q = (zas S q a ∧ Rn S 139 278 [v0, v1, v2, v3, v4, v5, v6, v7, v8, v9] st (zr I q (upd (I q) a.toNatClampNeg b)) J Q) := rIas f139_277
theorem x139_278 : Rn S 139 278 [.ref q, v1, v2, v3, v4, v5, v6, v7, v8, v9] st I J Q = Rn S 139 279 [.ref q, v1, v2, v3, v4, v5, v6, v7, v8, v9] (.ref q :: st) I J Q := rL f139_278 rfl rfl
theorem x139_279_65 : Rn (zG xl) 139 279 [v0, v1, v2, v3, v4, v5, v6, v7, v8, v9] (.ref 65 :: st) I J Q = Rn (zG xl) 139 282 [v0, v1, v2, v3, v4, v5, v6, v7, v8, v9] (.ref 78 :: st) I J Q := (rGf f139_279 rfl).trans (tr_and rfl)
theorem x139_282 : Rn S 139 282 [v0, v1, .int a, v3, v4, v5, v6, v7, v8, v9] st I J Q = Rn S 139 283 [v0, v1, .int a, v3, v4, v5, v6, v7, v8, v9] (.int a :: st) I J Q := rL f139_282 rfl rfl
theorem x139_283 : Rn S 139 283 [v0, v1, v2, v3, v4, v5, .int a, v7, v8, v9] st I J Q = Rn S 139 285 [v0, v1, v2, v3, v4, v5, .int a, v7, v8, v9] (.int a :: st) I J Q := rL f139_283 rfl rfl
theorem x139_285 : Rn S 139 285 [v0, v1, v2, v3, v4, v5, v6, v7, v8, v9] st I J Q = Rn S 139 286 [v0, v1, v2, v3, v4, v5, v6, v7, v8, v9] (.int 1 :: st) I J Q := rS f139_285 rfl
theorem x139_286 : Rn S 139 286 [v0, v1, v2, v3, v4, v5, v6, v7, v8, v9] (.int b :: .int a :: st) I J Q = Rn S 139 287 [v0, v1, v2, v3, v4, v5, v6, v7, v8, v9] (.int (a + b) :: st) I J Q := rS f139_286 rfl
theorem x139_287 : Rn S 139 287 [v0, v1, v2, v3, v4, v5, v6, v7, v8, v9] (.int b :: .int a :: .ref q :: st) I J Q = (zas S q a ∧ Rn S 139 288 [v0, v1, v2, v3, v4, v5, v6, v7, v8, v9] st (zr I q (upd (I q) a.toNatClampNeg b)) J Q) := rIas f139_287
theorem x139_288 : Rn S 139 288 [.ref q, v1, v2, v3, v4, v5, v6, v7, v8, v9] st I J Q = Rn S 139 289 [.ref q, v1, v2, v3, v4, v5, v6, v7, v8, v9] (.ref q :: st) I J Q := rL f139_288 rfl rfl
theorem x139_289_65 : Rn (zG xl) 139 289 [v0, v1, v2, v3, v4, v5, v6, v7, v8, v9] (.ref 65 :: st) I J Q = Rn (zG xl) 139 292 [v0, v1, v2, v3, v4, v5, v6, v7, v8, v9] (.ref 80 :: st) I J Q := (rGf f139_289 rfl).trans (tr_and rfl)
theorem x139_292 : Rn S 139 292 [v0, v1, .int a, v3, v4, v5, v6, v7, v8, v9] st I J Q = Rn S 139 293 [v0, v1, .int a, v3, v4, v5, v6, v7, v8, v9] (.int a :: st) I J Q := rL f139_292 rfl rfl
theorem x139_293 : Rn S 139 293 [v0, v1, v2, v3, v4, v5, v6, v7, v8, v9] (.int a :: .ref q :: st) I J Q = Rn S 139 294 [v0, v1, v2, v3, v4, v5, v6, v7, v8, v9] (.int a :: .ref q :: .int a :: .ref q :: st) I J Q := rS f139_293 rfl
theorem x139_294 : Rn S 139 294 [v0, v1, v2, v3, v4, v5, v6, v7, v8, v9] (.int a :: .ref q :: st) I J Q = (zai S q a ∧ Rn S 139 295 [v0, v1, v2, v3, v4, v5, v6, v7, v8, v9] (.int (I q a.toNatClampNeg) :: st) I J Q) := rIal f139_294
theorem x139_295 : Rn S 139 295 [v0, v1, v2, v3, v4, v5, v6, v7, v8, v9] st I J Q = Rn S 139 296 [v0, v1, v2, v3, v4, v5, v6, v7, v8, v9] (.int 1 :: st) I J Q := rS f139_295 rfl
theorem x139_296 : Rn S 139 296 [v0, v1, v2, v3, v4, v5, v6, v7, v8, v9] (.int b :: .int a :: st) I J Q = Rn S 139 297 [v0, v1, v2, v3, v4, v5, v6, v7, v8, v9] (.int (a + b) :: st) I J Q := rS f139_296 rfl
theorem x139_297 : Rn S 139 297 [v0, v1, v2, v3, v4, v5, v6, v7, v8, v9] (.int b :: .int a :: .ref q :: st) I J Q = (zas S q a ∧ Rn S 139 298 [v0, v1, v2, v3, v4, v5, v6, v7, v8, v9] st (zr I q (upd (I q) a.toNatClampNeg b)) J Q) := rIas f139_297
theorem x139_298 : Rn S 139 298 [.ref q, v1, v2, v3, v4, v5, v6, v7, v8, v9] st I J Q = Rn S 139 299 [.ref q, v1, v2, v3, v4, v5, v6, v7, v8, v9] (.ref q :: st) I J Q := rL f139_298 rfl rfl
theorem x139_299_65 : Rn (zG xl) 139 299 [v0, v1, v2, v3, v4, v5, v6, v7, v8, v9] (.ref 65 :: st) I J Q = Rn (zG xl) 139 302 [v0, v1, v2, v3, v4, v5, v6, v7, v8, v9] (.ref 86 :: st) I J Q := (rGf f139_299 rfl).trans (tr_and rfl)
theorem x139_302 : Rn S 139 302 [v0, v1, v2, .int a, v4, v5, v6, v7, v8, v9] st I J Q = Rn S 139 303 [v0, v1, v2, .int a, v4, v5, v6, v7, v8, v9] (.int a :: st) I J Q := rL f139_302 rfl rfl
theorem x139_303 : Rn S 139 303 [v0, v1, v2, v3, v4, v5, v6, v7, v8, v9] (.int a :: .ref q :: st) I J Q = Rn S 139 304 [v0, v1, v2, v3, v4, v5, v6, v7, v8, v9] (.int a :: .ref q :: .int a :: .ref q :: st) I J Q := rS f139_303 rfl
theorem x139_304 : Rn S 139 304 [v0, v1, v2, v3, v4, v5, v6, v7, v8, v9] (.int a :: .ref q :: st) I J Q = (zai S q a ∧ Rn S 139 305 [v0, v1, v2, v3, v4, v5, v6, v7, v8, v9] (.int (I q a.toNatClampNeg) :: st) I J Q) := rIal f139_304
theorem x139_305 : Rn S 139 305 [v0, v1, v2, v3, v4, v5, v6, v7, v8, v9] st I J Q = Rn S 139 306 [v0, v1, v2, v3, v4, v5, v6, v7, v8, v9] (.int 1 :: st) I J Q := rS f139_305 rfl
theorem x139_306 : Rn S 139 306 [v0, v1, v2, v3, v4, v5, v6, v7, v8, v9] (.int b :: .int a :: st) I J Q = Rn S 139 307 [v0, v1, v2, v3, v4, v5, v6, v7, v8, v9] (.int (a + b) :: st) I J Q := rS f139_306 rfl
theorem x139_307 : Rn S 139 307 [v0, v1, v2, v3, v4, v5, v6, v7, v8, v9] (.int b :: .int a :: .ref q :: st) I J Q = (zas S q a ∧ Rn S 139 308 [v0, v1, v2, v3, v4, v5, v6, v7, v8, v9] st (zr I q (upd (I q) a.toNatClampNeg b)) J Q) := rIas f139_307
theorem x139_308 : Rn S 139 308 [.ref q, v1, v2, v3, v4, v5, v6, v7, v8, v9] st I J Q = Rn S 139 309 [.ref q, v1, v2, v3, v4, v5, v6, v7, v8, v9] (.ref q :: st) I J Q := rL f139_308 rfl rfl
theorem x139_309_65 : Rn (zG xl) 139 309 [v0, v1, v2, v3, v4, v5, v6, v7, v8, v9] (.ref 65 :: st) I J Q = Rn (zG xl) 139 312 [v0, v1, v2, v3, v4, v5, v6, v7, v8, v9] (.ref 77 :: st) I J Q := (rGf f139_309 rfl).trans (tr_and rfl)
theorem x139_312 : Rn S 139 312 [v0, .int a, v2, v3, v4, v5, v6, v7, v8, v9] st I J Q = Rn S 139 313 [v0, .int a, v2, v3, v4, v5, v6, v7, v8, v9] (.int a :: st) I J Q := rL f139_312 rfl rfl
theorem x139_313 : Rn S 139 313 [v0, v1, v2, v3, v4, v5, v6, v7, v8, v9] (.int a :: .ref q :: st) I J Q = (zab S q a ∧ Rn S 139 314 [v0, v1, v2, v3, v4, v5, v6, v7, v8, v9] (.int (zbv S I q a.toNatClampNeg) :: st) I J Q) := rBal f139_313
theorem x139_314 : Rn S 139 314 [v0, v1, v2, v3, v4, v5, v6, v7, v8, v9] (.int a :: st) I J Q = if a = 0 then Rn S 139 419 [v0, v1, v2, v3, v4, v5, v6, v7, v8, v9] st I J Q else Rn S 139 317 [v0, v1, v2, v3, v4, v5, v6, v7, v8, v9] st I J Q := rIeq f139_314 rfl rfl
theorem x139_317 : Rn S 139 317 [.ref q, v1, v2, v3, v4, v5, v6, v7, v8, v9] st I J Q = Rn S 139 318 [.ref q, v1, v2, v3, v4, v5, v6, v7, v8, v9] (.ref q :: st) I J Q := rL f139_317 rfl rfl
theorem x139_318_65 : Rn (zG xl) 139 318 [v0, v1, v2, v3, v4, v5, v6, v7, v8, v9] (.ref 65 :: st) I J Q = Rn (zG xl) 139 321 [v0, v1, v2, v3, v4, v5, v6, v7, v8, v9] (.ref 81 :: st) I J Q := (rGf f139_318 rfl).trans (tr_and rfl)
theorem x139_321 : Rn S 139 321 [v0, v1, .int a, v3, v4, v5, v6, v7, v8, v9] st I J Q = Rn S 139 322 [v0, v1, .int a, v3, v4, v5, v6, v7, v8, v9] (.int a :: st) I J Q := rL f139_321 rfl rfl
theorem x139_322 : Rn S 139 322 [v0, v1, v2, v3, v4, v5, v6, v7, v8, v9] (.int a :: .ref q :: st) I J Q = Rn S 139 323 [v0, v1, v2, v3, v4, v5, v6, v7, v8, v9] (.int a :: .ref q :: .int a :: .ref q :: st) I J Q := rS f139_322 rfl
theorem x139_323 : Rn S 139 323 [v0, v1, v2, v3, v4, v5, v6, v7, v8, v9] (.int a :: .ref q :: st) I J Q = (zai S q a ∧ Rn S 139 324 [v0, v1, v2, v3, v4, v5, v6, v7, v8, v9] (.int (I q a.toNatClampNeg) :: st) I J Q) := rIal f139_323
theorem x139_324 : Rn S 139 324 [v0, v1, v2, v3, v4, v5, v6, v7, v8, v9] st I J Q = Rn S 139 325 [v0, v1, v2, v3, v4, v5, v6, v7, v8, v9] (.int 1 :: st) I J Q := rS f139_324 rfl
theorem x139_325 : Rn S 139 325 [v0, v1, v2, v3, v4, v5, v6, v7, v8, v9] (.int b :: .int a :: st) I J Q = Rn S 139 326 [v0, v1, v2, v3, v4, v5, v6, v7, v8, v9] (.int (a + b) :: st) I J Q := rS f139_325 rfl
theorem x139_326 : Rn S 139 326 [v0, v1, v2, v3, v4, v5, v6, v7, v8, v9] (.int b :: .int a :: .ref q :: st) I J Q = (zas S q a ∧ Rn S 139 327 [v0, v1, v2, v3, v4, v5, v6, v7, v8, v9] st (zr I q (upd (I q) a.toNatClampNeg b)) J Q) := rIas f139_326
theorem x139_327 : Rn S 139 327 [.ref q, v1, v2, v3, v4, v5, v6, v7, v8, v9] st I J Q = Rn S 139 328 [.ref q, v1, v2, v3, v4, v5, v6, v7, v8, v9] (.ref q :: st) I J Q := rL f139_327 rfl rfl
theorem x139_328_65 : Rn (zG xl) 139 328 [v0, v1, v2, v3, v4, v5, v6, v7, v8, v9] (.ref 65 :: st) I J Q = Rn (zG xl) 139 331 [v0, v1, v2, v3, v4, v5, v6, v7, v8, v9] (.ref 84 :: st) I J Q := (rGf f139_328 rfl).trans (tr_and rfl)
theorem x139_331 : Rn S 139 331 [v0, v1, v2, .int a, v4, v5, v6, v7, v8, v9] st I J Q = Rn S 139 332 [v0, v1, v2, .int a, v4, v5, v6, v7, v8, v9] (.int a :: st) I J Q := rL f139_331 rfl rfl
theorem x139_332 : Rn S 139 332 [v0, v1, v2, v3, v4, v5, v6, v7, v8, v9] (.int a :: .ref q :: st) I J Q = (zai S q a ∧ Rn S 139 333 [v0, v1, v2, v3, v4, v5, v6, v7, v8, v9] (.int (I q a.toNatClampNeg) :: st) I J Q) := rIal f139_332
theorem x139_333 : Rn S 139 333 [v0, v1, v2, v3, v4, v5, v6, v7, v8, v9] st I J Q = Rn S 139 334 [v0, v1, v2, v3, v4, v5, v6, v7, v8, v9] (.int (-1) :: st) I J Q := rS f139_333 rfl
theorem x139_334 : Rn S 139 334 [v0, v1, v2, v3, v4, v5, v6, v7, v8, v9] (.int b :: .int a :: st) I J Q = if a = b then Rn S 139 369 [v0, v1, v2, v3, v4, v5, v6, v7, v8, v9] st I J Q else Rn S 139 337 [v0, v1, v2, v3, v4, v5, v6, v7, v8, v9] st I J Q := rCeq f139_334 rfl rfl
theorem x139_337 : Rn S 139 337 [v0, v1, v2, v3, v4, v5, .int a, v7, v8, v9] st I J Q = Rn S 139 339 [v0, v1, v2, v3, v4, v5, .int a, v7, v8, v9] (.int a :: st) I J Q := rL f139_337 rfl rfl
theorem x139_339 : Rn S 139 339 [.ref q, v1, v2, v3, v4, v5, v6, v7, v8, v9] st I J Q = Rn S 139 340 [.ref q, v1, v2, v3, v4, v5, v6, v7, v8, v9] (.ref q :: st) I J Q := rL f139_339 rfl rfl
theorem x139_340_65 : Rn (zG xl) 139 340 [v0, v1, v2, v3, v4, v5, v6, v7, v8, v9] (.ref 65 :: st) I J Q = Rn (zG xl) 139 343 [v0, v1, v2, v3, v4, v5, v6, v7, v8, v9] (.ref 85 :: st) I J Q := (rGf f139_340 rfl).trans (tr_and rfl)
theorem x139_343 : Rn S 139 343 [v0, v1, v2, .int a, v4, v5, v6, v7, v8, v9] st I J Q = Rn S 139 344 [v0, v1, v2, .int a, v4, v5, v6, v7, v8, v9] (.int a :: st) I J Q := rL f139_343 rfl rfl
theorem x139_344 : Rn S 139 344 [v0, v1, v2, v3, v4, v5, v6, v7, v8, v9] (.int a :: .ref q :: st) I J Q = (zai S q a ∧ Rn S 139 345 [v0, v1, v2, v3, v4, v5, v6, v7, v8, v9] (.int (I q a.toNatClampNeg) :: st) I J Q) := rIal f139_344
theorem x139_345 : Rn S 139 345 [v0, v1, v2, v3, v4, v5, v6, v7, v8, v9] (.int b :: .int a :: st) I J Q = if a < b then Rn S 139 369 [v0, v1, v2, v3, v4, v5, v6, v7, v8, v9] st I J Q else Rn S 139 348 [v0, v1, v2, v3, v4, v5, v6, v7, v8, v9] st I J Q := rClt f139_345 rfl rfl
theorem x139_348 : Rn S 139 348 [v0, v1, v2, v3, v4, v5, .int a, v7, v8, v9] st I J Q = Rn S 139 350 [v0, v1, v2, v3, v4, v5, .int a, v7, v8, v9] (.int a :: st) I J Q := rL f139_348 rfl rfl
theorem x139_350 : Rn S 139 350 [.ref q, v1, v2, v3, v4, v5, v6, v7, v8, v9] st I J Q = Rn S 139 351 [.ref q, v1, v2, v3, v4, v5, v6, v7, v8, v9] (.ref q :: st) I J Q := rL f139_350 rfl rfl
theorem x139_351_65 : Rn (zG xl) 139 351 [v0, v1, v2, v3, v4, v5, v6, v7, v8, v9] (.ref 65 :: st) I J Q = Rn (zG xl) 139 354 [v0, v1, v2, v3, v4, v5, v6, v7, v8, v9] (.ref 85 :: st) I J Q := (rGf f139_351 rfl).trans (tr_and rfl)
theorem x139_354 : Rn S 139 354 [v0, v1, v2, .int a, v4, v5, v6, v7, v8, v9] st I J Q = Rn S 139 355 [v0, v1, v2, .int a, v4, v5, v6, v7, v8, v9] (.int a :: st) I J Q := rL f139_354 rfl rfl
theorem x139_355 : Rn S 139 355 [v0, v1, v2, v3, v4, v5, v6, v7, v8, v9] (.int a :: .ref q :: st) I J Q = (zai S q a ∧ Rn S 139 356 [v0, v1, v2, v3, v4, v5, v6, v7, v8, v9] (.int (I q a.toNatClampNeg) :: st) I J Q) := rIal f139_355
theorem x139_356 : Rn S 139 356 [v0, v1, v2, v3, v4, v5, v6, v7, v8, v9] (.int b :: .int a :: st) I J Q = if a = b then Rn S 139 359 [v0, v1, v2, v3, v4, v5, v6, v7, v8, v9] st I J Q else Rn S 139 373 [v0, v1, v2, v3, v4, v5, v6, v7, v8, v9] st I J Q := rCne f139_356 rfl rfl
theorem x139_359 : Rn S 139 359 [v0, v1, .int a, v3, v4, v5, v6, v7, v8, v9] st I J Q = Rn S 139 360 [v0, v1, .int a, v3, v4, v5, v6, v7, v8, v9] (.int a :: st) I J Q := rL f139_359 rfl rfl
theorem x139_360 : Rn S 139 360 [.ref q, v1, v2, v3, v4, v5, v6, v7, v8, v9] st I J Q = Rn S 139 361 [.ref q, v1, v2, v3, v4, v5, v6, v7, v8, v9] (.ref q :: st) I J Q := rL f139_360 rfl rfl
theorem x139_361_65 : Rn (zG xl) 139 361 [v0, v1, v2, v3, v4, v5, v6, v7, v8, v9] (.ref 65 :: st) I J Q = Rn (zG xl) 139 364 [v0, v1, v2, v3, v4, v5, v6, v7, v8, v9] (.ref 84 :: st) I J Q := (rGf f139_361 rfl).trans (tr_and rfl)
theorem x139_364 : Rn S 139 364 [v0, v1, v2, .int a, v4, v5, v6, v7, v8, v9] st I J Q = Rn S 139 365 [v0, v1, v2, .int a, v4, v5, v6, v7, v8, v9] (.int a :: st) I J Q := rL f139_364 rfl rfl
theorem x139_365 : Rn S 139 365 [v0, v1, v2, v3, v4, v5, v6, v7, v8, v9] (.int a :: .ref q :: st) I J Q = (zai S q a ∧ Rn S 139 366 [v0, v1, v2, v3, v4, v5, v6, v7, v8, v9] (.int (I q a.toNatClampNeg) :: st) I J Q) := rIal f139_365
theorem x139_366 : Rn S 139 366 [v0, v1, v2, v3, v4, v5, v6, v7, v8, v9] (.int b :: .int a :: st) I J Q = if a < b then Rn S 139 369 [v0, v1, v2, v3, v4, v5, v6, v7, v8, v9] st I J Q else Rn S 139 373 [v0, v1, v2, v3, v4, v5, v6, v7, v8, v9] st I J Q := rCge f139_366 rfl rfl
theorem x139_369 : Rn S 139 369 [v0, v1, v2, v3, v4, v5, v6, v7, v8, v9] st I J Q = Rn S 139 370 [v0, v1, v2, v3, v4, v5, v6, v7, v8, v9] (.int 1 :: st) I J Q := rS f139_369 rfl
theorem x139_370 : Rn S 139 370 [v0, v1, v2, v3, v4, v5, v6, v7, v8, v9] st I J Q = Rn S 139 374 [v0, v1, v2, v3, v4, v5, v6, v7, v8, v9] st I J Q := rB f139_370 rfl rfl rfl
theorem x139_373 : Rn S 139 373 [v0, v1, v2, v3, v4, v5, v6, v7, v8, v9] st I J Q = Rn S 139 374 [v0, v1, v2, v3, v4, v5, v6, v7, v8, v9] (.int 0 :: st) I J Q := rS f139_373 rfl
theorem x139_374 : Rn S 139 374 [v0, v1, v2, v3, v4, v5, v6, v7, v8, v9] (.int a :: st) I J Q = Rn S 139 376 [v0, v1, v2, v3, v4, v5, v6, v7, zkl v8, .int a] st I J Q := rL f139_374 rfl rfl
theorem x139_376 : Rn S 139 376 [.ref q, v1, v2, v3, v4, v5, v6, v7, v8, v9] st I J Q = Rn S 139 377 [.ref q, v1, v2, v3, v4, v5, v6, v7, v8, v9] (.ref q :: st) I J Q := rL f139_376 rfl rfl
theorem x139_377_65 : Rn (zG xl) 139 377 [v0, v1, v2, v3, v4, v5, v6, v7, v8, v9] (.ref 65 :: st) I J Q = Rn (zG xl) 139 380 [v0, v1, v2, v3, v4, v5, v6, v7, v8, v9] (.ref 84 :: st) I J Q := (rGf f139_377 rfl).trans (tr_and rfl)
theorem x139_380 : Rn S 139 380 [v0, v1, v2, .int a, v4, v5, v6, v7, v8, v9] st I J Q = Rn S 139 381 [v0, v1, v2, .int a, v4, v5, v6, v7, v8, v9] (.int a :: st) I J Q := rL f139_380 rfl rfl
theorem x139_381 : Rn S 139 381 [v0, v1, v2, v3, v4, v5, v6, v7, v8, .int a] st I J Q = Rn S 139 383 [v0, v1, v2, v3, v4, v5, v6, v7, v8, .int a] (.int a :: st) I J Q := rL f139_381 rfl rfl
theorem x139_383 : Rn S 139 383 [v0, v1, v2, v3, v4, v5, v6, v7, v8, v9] (.int a :: st) I J Q = if a = 0 then Rn S 139 390 [v0, v1, v2, v3, v4, v5, v6, v7, v8, v9] st I J Q else Rn S 139 386 [v0, v1, v2, v3, v4, v5, v6, v7, v8, v9] st I J Q := rIeq f139_383 rfl rfl
theorem x139_386 : Rn S 139 386 [v0, v1, .int a, v3, v4, v5, v6, v7, v8, v9] st I J Q = Rn S 139 387 [v0, v1, .int a, v3, v4, v5, v6, v7, v8, v9] (.int a :: st) I J Q := rL f139_386 rfl rfl
theorem x139_387 : Rn S 139 387 [v0, v1, v2, v3, v4, v5, v6, v7, v8, v9] st I J Q = Rn S 139 396 [v0, v1, v2, v3, v4, v5, v6, v7, v8, v9] st I J Q := rB f139_387 rfl rfl rfl
theorem x139_390 : Rn S 139 390 [.ref q, v1, v2, v3, v4, v5, v6, v7, v8, v9] st I J Q = Rn S 139 391 [.ref q, v1, v2, v3, v4, v5, v6, v7, v8, v9] (.ref q :: st) I J Q := rL f139_390 rfl rfl
theorem x139_391_65 : Rn (zG xl) 139 391 [v0, v1, v2, v3, v4, v5, v6, v7, v8, v9] (.ref 65 :: st) I J Q = Rn (zG xl) 139 394 [v0, v1, v2, v3, v4, v5, v6, v7, v8, v9] (.ref 84 :: st) I J Q := (rGf f139_391 rfl).trans (tr_and rfl)
theorem x139_394 : Rn S 139 394 [v0, v1, v2, .int a, v4, v5, v6, v7, v8, v9] st I J Q = Rn S 139 395 [v0, v1, v2, .int a, v4, v5, v6, v7, v8, v9] (.int a :: st) I J Q := rL f139_394 rfl rfl
theorem x139_395 : Rn S 139 395 [v0, v1, v2, v3, v4, v5, v6, v7, v8, v9] (.int a :: .ref q :: st) I J Q = (zai S q a ∧ Rn S 139 396 [v0, v1, v2, v3, v4, v5, v6, v7, v8, v9] (.int (I q a.toNatClampNeg) :: st) I J Q) := rIal f139_395
theorem x139_396 : Rn S 139 396 [v0, v1, v2, v3, v4, v5, v6, v7, v8, v9] (.int b :: .int a :: .ref q :: st) I J Q = (zas S q a ∧ Rn S 139 397 [v0, v1, v2, v3, v4, v5, v6, v7, v8, v9] st (zr I q (upd (I q) a.toNatClampNeg b)) J Q) := rIas f139_396
theorem x139_397 : Rn S 139 397 [.ref q, v1, v2, v3, v4, v5, v6, v7, v8, v9] st I J Q = Rn S 139 398 [.ref q, v1, v2, v3, v4, v5, v6, v7, v8, v9] (.ref q :: st) I J Q := rL f139_397 rfl rfl
theorem x139_398_65 : Rn (zG xl) 139 398 [v0, v1, v2, v3, v4, v5, v6, v7, v8, v9] (.ref 65 :: st) I J Q = Rn (zG xl) 139 401 [v0, v1, v2, v3, v4, v5, v6, v7, v8, v9] (.ref 85 :: st) I J Q := (rGf f139_398 rfl).trans (tr_and rfl)
theorem x139_401 : Rn S 139 401 [v0, v1, v2, .int a, v4, v5, v6, v7, v8, v9] st I J Q = Rn S 139 402 [v0, v1, v2, .int a, v4, v5, v6, v7, v8, v9] (.int a :: st) I J Q := rL f139_401 rfl rfl
theorem x139_402 : Rn S 139 402 [v0, v1, v2, v3, v4, v5, v6, v7, v8, .int a] st I J Q = Rn S 139 404 [v0, v1, v2, v3, v4, v5, v6, v7, v8, .int a] (.int a :: st) I J Q := rL f139_402 rfl rfl
theorem x139_404 : Rn S 139 404 [v0, v1, v2, v3, v4, v5, v6, v7, v8, v9] (.int a :: st) I J Q = if a = 0 then Rn S 139 412 [v0, v1, v2, v3, v4, v5, v6, v7, v8, v9] st I J Q else Rn S 139 407 [v0, v1, v2, v3, v4, v5, v6, v7, v8, v9] st I J Q := rIeq f139_404 rfl rfl
theorem x139_407 : Rn S 139 407 [v0, v1, v2, v3, v4, v5, .int a, v7, v8, v9] st I J Q = Rn S 139 409 [v0, v1, v2, v3, v4, v5, .int a, v7, v8, v9] (.int a :: st) I J Q := rL f139_407 rfl rfl
theorem x139_409 : Rn S 139 409 [v0, v1, v2, v3, v4, v5, v6, v7, v8, v9] st I J Q = Rn S 139 418 [v0, v1, v2, v3, v4, v5, v6, v7, v8, v9] st I J Q := rB f139_409 rfl rfl rfl
theorem x139_412 : Rn S 139 412 [.ref q, v1, v2, v3, v4, v5, v6, v7, v8, v9] st I J Q = Rn S 139 413 [.ref q, v1, v2, v3, v4, v5, v6, v7, v8, v9] (.ref q :: st) I J Q := rL f139_412 rfl rfl
theorem x139_413_65 : Rn (zG xl) 139 413 [v0, v1, v2, v3, v4, v5, v6, v7, v8, v9] (.ref 65 :: st) I J Q = Rn (zG xl) 139 416 [v0, v1, v2, v3, v4, v5, v6, v7, v8, v9] (.ref 85 :: st) I J Q := (rGf f139_413 rfl).trans (tr_and rfl)
theorem x139_416 : Rn S 139 416 [v0, v1, v2, .int a, v4, v5, v6, v7, v8, v9] st I J Q = Rn S 139 417 [v0, v1, v2, .int a, v4, v5, v6, v7, v8, v9] (.int a :: st) I J Q := rL f139_416 rfl rfl
theorem x139_417 : Rn S 139 417 [v0, v1, v2, v3, v4, v5, v6, v7, v8, v9] (.int a :: .ref q :: st) I J Q = (zai S q a ∧ Rn S 139 418 [v0, v1, v2, v3, v4, v5, v6, v7, v8, v9] (.int (I q a.toNatClampNeg) :: st) I J Q) := rIal f139_417
theorem x139_418 : Rn S 139 418 [v0, v1, v2, v3, v4, v5, v6, v7, v8, v9] (.int b :: .int a :: .ref q :: st) I J Q = (zas S q a ∧ Rn S 139 419 [v0, v1, v2, v3, v4, v5, v6, v7, v8, v9] st (zr I q (upd (I q) a.toNatClampNeg b)) J Q) := rIas f139_418
theorem x139_419 : Rn S 139 419 [v0, v1, v2, v3, v4, v5, v6, v7, v8, v9] [] I J Q = Q none I J := rR f139_419 rfl rfl rfl rfl rfl
/-! X6.lives: 140 -/
theorem B140 : zB 140 = cX6_lives := rfl
theorem f140_0 : zft 140 0 = some (.iconst 0, 1) := fet B140 (by decide +kernel) (Or.inr rfl)
theorem f140_1 : zft 140 1 = some (.istore_n 1, 1) := fet B140 (by decide +kernel) (Or.inr rfl)
theorem f140_2 : zft 140 2 = some (.iload_n 1, 1) := fet B140 (by decide +kernel) (Or.inr rfl)
theorem f140_3 : zft 140 3 = some (.bipush 6, 2) := fet B140 (by decide +kernel) (Or.inr rfl)
theorem f140_5 : zft 140 5 = some (.if_icmp .ge 51, 3) := fet B140 (by decide +kernel) (Or.inr rfl)
theorem f140_8 : zft 140 8 = some (.aload_n 0, 1) := fet B140 (by decide +kernel) (Or.inr rfl)
theorem f140_9 : zft 140 9 = some (.getfield 47, 3) := fet B140 (by decide +kernel) (Or.inr rfl)
theorem f140_12 : zft 140 12 = some (.iload_n 1, 1) := fet B140 (by decide +kernel) (Or.inr rfl)
theorem f140_13 : zft 140 13 = some (.iconst 0, 1) := fet B140 (by decide +kernel) (Or.inr rfl)
theorem f140_14 : zft 140 14 = some (.iastore, 1) := fet B140 (by decide +kernel) (Or.inr rfl)
theorem f140_15 : zft 140 15 = some (.aload_n 0, 1) := fet B140 (by decide +kernel) (Or.inr rfl)
theorem f140_16 : zft 140 16 = some (.getfield 50, 3) := fet B140 (by decide +kernel) (Or.inr rfl)
theorem f140_19 : zft 140 19 = some (.iload_n 1, 1) := fet B140 (by decide +kernel) (Or.inr rfl)
theorem f140_20 : zft 140 20 = some (.iconst 0, 1) := fet B140 (by decide +kernel) (Or.inr rfl)
theorem f140_21 : zft 140 21 = some (.iastore, 1) := fet B140 (by decide +kernel) (Or.inr rfl)
theorem f140_22 : zft 140 22 = some (.aload_n 0, 1) := fet B140 (by decide +kernel) (Or.inr rfl)
theorem f140_23 : zft 140 23 = some (.getfield 53, 3) := fet B140 (by decide +kernel) (Or.inr rfl)
theorem f140_26 : zft 140 26 = some (.iload_n 1, 1) := fet B140 (by decide +kernel) (Or.inr rfl)
theorem f140_27 : zft 140 27 = some (.iconst 0, 1) := fet B140 (by decide +kernel) (Or.inr rfl)
theorem f140_28 : zft 140 28 = some (.iastore, 1) := fet B140 (by decide +kernel) (Or.inr rfl)
theorem f140_29 : zft 140 29 = some (.aload_n 0, 1) := fet B140 (by decide +kernel) (Or.inr rfl)
theorem f140_30 : zft 140 30 = some (.getfield 56, 3) := fet B140 (by decide +kernel) (Or.inr rfl)
theorem f140_33 : zft 140 33 = some (.iload_n 1, 1) := fet B140 (by decide +kernel) (Or.inr rfl)
theorem f140_34 : zft 140 34 = some (.iconst 0, 1) := fet B140 (by decide +kernel) (Or.inr rfl)
theorem f140_35 : zft 140 35 = some (.iastore, 1) := fet B140 (by decide +kernel) (Or.inr rfl)
theorem f140_36 : zft 140 36 = some (.aload_n 0, 1) := fet B140 (by decide +kernel) (Or.inr rfl)
theorem f140_37 : zft 140 37 = some (.getfield 59, 3) := fet B140 (by decide +kernel) (Or.inr rfl)
theorem f140_40 : zft 140 40 = some (.iload_n 1, 1) := fet B140 (by decide +kernel) (Or.inr rfl)
theorem f140_41 : zft 140 41 = some (.iconst (-1), 1) := fet B140 (by decide +kernel) (Or.inr rfl)
theorem f140_42 : zft 140 42 = some (.iastore, 1) := fet B140 (by decide +kernel) (Or.inr rfl)
theorem f140_43 : zft 140 43 = some (.aload_n 0, 1) := fet B140 (by decide +kernel) (Or.inr rfl)
theorem f140_44 : zft 140 44 = some (.getfield 62, 3) := fet B140 (by decide +kernel) (Or.inr rfl)
theorem f140_47 : zft 140 47 = some (.iload_n 1, 1) := fet B140 (by decide +kernel) (Or.inr rfl)
theorem f140_48 : zft 140 48 = some (.iconst 0, 1) := fet B140 (by decide +kernel) (Or.inr rfl)
theorem f140_49 : zft 140 49 = some (.bastore, 1) := fet B140 (by decide +kernel) (Or.inr rfl)
theorem f140_50 : zft 140 50 = some (.iinc 1 1, 3) := fet B140 (by decide +kernel) (Or.inr rfl)
theorem f140_53 : zft 140 53 = some (.goto (-51), 3) := fet B140 (by decide +kernel) (Or.inr rfl)
theorem f140_56 : zft 140 56 = some (.iconst 0, 1) := fet B140 (by decide +kernel) (Or.inr rfl)
theorem f140_57 : zft 140 57 = some (.istore_n 1, 1) := fet B140 (by decide +kernel) (Or.inr rfl)
theorem f140_58 : zft 140 58 = some (.iload_n 1, 1) := fet B140 (by decide +kernel) (Or.inr rfl)
theorem f140_59 : zft 140 59 = some (.bipush 10, 2) := fet B140 (by decide +kernel) (Or.inr rfl)
theorem f140_61 : zft 140 61 = some (.if_icmp .ge 30, 3) := fet B140 (by decide +kernel) (Or.inr rfl)
theorem f140_64 : zft 140 64 = some (.aload_n 0, 1) := fet B140 (by decide +kernel) (Or.inr rfl)
theorem f140_65 : zft 140 65 = some (.getfield 65, 3) := fet B140 (by decide +kernel) (Or.inr rfl)
theorem f140_68 : zft 140 68 = some (.iload_n 1, 1) := fet B140 (by decide +kernel) (Or.inr rfl)
theorem f140_69 : zft 140 69 = some (.iconst (-1), 1) := fet B140 (by decide +kernel) (Or.inr rfl)
theorem f140_70 : zft 140 70 = some (.iastore, 1) := fet B140 (by decide +kernel) (Or.inr rfl)
theorem f140_71 : zft 140 71 = some (.aload_n 0, 1) := fet B140 (by decide +kernel) (Or.inr rfl)
theorem f140_72 : zft 140 72 = some (.getfield 68, 3) := fet B140 (by decide +kernel) (Or.inr rfl)
theorem f140_75 : zft 140 75 = some (.iload_n 1, 1) := fet B140 (by decide +kernel) (Or.inr rfl)
theorem f140_76 : zft 140 76 = some (.iconst (-1), 1) := fet B140 (by decide +kernel) (Or.inr rfl)
theorem f140_77 : zft 140 77 = some (.iastore, 1) := fet B140 (by decide +kernel) (Or.inr rfl)
theorem f140_78 : zft 140 78 = some (.aload_n 0, 1) := fet B140 (by decide +kernel) (Or.inr rfl)
theorem f140_79 : zft 140 79 = some (.getfield 71, 3) := fet B140 (by decide +kernel) (Or.inr rfl)
theorem f140_82 : zft 140 82 = some (.iload_n 1, 1) := fet B140 (by decide +kernel) (Or.inr rfl)
theorem f140_83 : zft 140 83 = some (.iconst 0, 1) := fet B140 (by decide +kernel) (Or.inr rfl)
theorem f140_84 : zft 140 84 = some (.iastore, 1) := fet B140 (by decide +kernel) (Or.inr rfl)
theorem f140_85 : zft 140 85 = some (.iinc 1 1, 3) := fet B140 (by decide +kernel) (Or.inr rfl)
theorem f140_88 : zft 140 88 = some (.goto (-30), 3) := fet B140 (by decide +kernel) (Or.inr rfl)
theorem f140_91 : zft 140 91 = some (.iconst 0, 1) := fet B140 (by decide +kernel) (Or.inr rfl)
theorem f140_92 : zft 140 92 = some (.istore_n 1, 1) := fet B140 (by decide +kernel) (Or.inr rfl)
theorem f140_93 : zft 140 93 = some (.iload_n 1, 1) := fet B140 (by decide +kernel) (Or.inr rfl)
theorem f140_94 : zft 140 94 = some (.aload_n 0, 1) := fet B140 (by decide +kernel) (Or.inr rfl)
theorem f140_95 : zft 140 95 = some (.getfield 134, 3) := fet B140 (by decide +kernel) (Or.inr rfl)
theorem f140_98 : zft 140 98 = some (.if_icmp .ge 14, 3) := fet B140 (by decide +kernel) (Or.inr rfl)
theorem f140_101 : zft 140 101 = some (.aload_n 0, 1) := fet B140 (by decide +kernel) (Or.inr rfl)
theorem f140_102 : zft 140 102 = some (.iload_n 1, 1) := fet B140 (by decide +kernel) (Or.inr rfl)
theorem f140_103 : zft 140 103 = some (.invokevirtual 198, 3) := fet B140 (by decide +kernel) (Or.inr rfl)
theorem f140_106 : zft 140 106 = some (.iinc 1 1, 3) := fet B140 (by decide +kernel) (Or.inr rfl)
theorem f140_109 : zft 140 109 = some (.goto (-16), 3) := fet B140 (by decide +kernel) (Or.inr rfl)
theorem f140_112 : zft 140 112 = some (.return_, 1) := fet B140 (by decide +kernel) (Or.inr rfl)
theorem x140_0 : Rn S 140 0 [v0, v1] st I J Q = Rn S 140 1 [v0, v1] (.int 0 :: st) I J Q := rS f140_0 rfl
theorem x140_1 : Rn S 140 1 [v0, v1] (.int a :: st) I J Q = Rn S 140 2 [zkl v0, .int a] st I J Q := rL f140_1 rfl rfl
theorem h140_2 : Rn S 140 2 [v0, .int a] st I J Q = Rn S 140 3 [v0, .int a] (.int a :: st) I J Q := rL f140_2 rfl rfl
theorem x140_3 : Rn S 140 3 [v0, v1] st I J Q = Rn S 140 5 [v0, v1] (.int 6 :: st) I J Q := rS f140_3 rfl
theorem x140_5 : Rn S 140 5 [v0, v1] (.int b :: .int a :: st) I J Q = if a < b then Rn S 140 8 [v0, v1] st I J Q else Rn S 140 56 [v0, v1] st I J Q := rCge f140_5 rfl rfl
theorem x140_8 : Rn S 140 8 [.ref q, v1] st I J Q = Rn S 140 9 [.ref q, v1] (.ref q :: st) I J Q := rL f140_8 rfl rfl
theorem x140_9_65 : Rn (zG xl) 140 9 [v0, v1] (.ref 65 :: st) I J Q = Rn (zG xl) 140 12 [v0, v1] (.ref 78 :: st) I J Q := (rGf f140_9 rfl).trans (tr_and rfl)
theorem x140_12 : Rn S 140 12 [v0, .int a] st I J Q = Rn S 140 13 [v0, .int a] (.int a :: st) I J Q := rL f140_12 rfl rfl
theorem x140_13 : Rn S 140 13 [v0, v1] st I J Q = Rn S 140 14 [v0, v1] (.int 0 :: st) I J Q := rS f140_13 rfl
theorem x140_14 : Rn S 140 14 [v0, v1] (.int b :: .int a :: .ref q :: st) I J Q = (zas S q a ∧ Rn S 140 15 [v0, v1] st (zr I q (upd (I q) a.toNatClampNeg b)) J Q) := rIas f140_14
theorem x140_15 : Rn S 140 15 [.ref q, v1] st I J Q = Rn S 140 16 [.ref q, v1] (.ref q :: st) I J Q := rL f140_15 rfl rfl
theorem x140_16_65 : Rn (zG xl) 140 16 [v0, v1] (.ref 65 :: st) I J Q = Rn (zG xl) 140 19 [v0, v1] (.ref 79 :: st) I J Q := (rGf f140_16 rfl).trans (tr_and rfl)
theorem x140_19 : Rn S 140 19 [v0, .int a] st I J Q = Rn S 140 20 [v0, .int a] (.int a :: st) I J Q := rL f140_19 rfl rfl
theorem x140_20 : Rn S 140 20 [v0, v1] st I J Q = Rn S 140 21 [v0, v1] (.int 0 :: st) I J Q := rS f140_20 rfl
theorem x140_21 : Rn S 140 21 [v0, v1] (.int b :: .int a :: .ref q :: st) I J Q = (zas S q a ∧ Rn S 140 22 [v0, v1] st (zr I q (upd (I q) a.toNatClampNeg b)) J Q) := rIas f140_21
theorem x140_22 : Rn S 140 22 [.ref q, v1] st I J Q = Rn S 140 23 [.ref q, v1] (.ref q :: st) I J Q := rL f140_22 rfl rfl
theorem x140_23_65 : Rn (zG xl) 140 23 [v0, v1] (.ref 65 :: st) I J Q = Rn (zG xl) 140 26 [v0, v1] (.ref 80 :: st) I J Q := (rGf f140_23 rfl).trans (tr_and rfl)
theorem x140_26 : Rn S 140 26 [v0, .int a] st I J Q = Rn S 140 27 [v0, .int a] (.int a :: st) I J Q := rL f140_26 rfl rfl
theorem x140_27 : Rn S 140 27 [v0, v1] st I J Q = Rn S 140 28 [v0, v1] (.int 0 :: st) I J Q := rS f140_27 rfl
theorem x140_28 : Rn S 140 28 [v0, v1] (.int b :: .int a :: .ref q :: st) I J Q = (zas S q a ∧ Rn S 140 29 [v0, v1] st (zr I q (upd (I q) a.toNatClampNeg b)) J Q) := rIas f140_28
theorem x140_29 : Rn S 140 29 [.ref q, v1] st I J Q = Rn S 140 30 [.ref q, v1] (.ref q :: st) I J Q := rL f140_29 rfl rfl
theorem x140_30_65 : Rn (zG xl) 140 30 [v0, v1] (.ref 65 :: st) I J Q = Rn (zG xl) 140 33 [v0, v1] (.ref 81 :: st) I J Q := (rGf f140_30 rfl).trans (tr_and rfl)
theorem x140_33 : Rn S 140 33 [v0, .int a] st I J Q = Rn S 140 34 [v0, .int a] (.int a :: st) I J Q := rL f140_33 rfl rfl
theorem x140_34 : Rn S 140 34 [v0, v1] st I J Q = Rn S 140 35 [v0, v1] (.int 0 :: st) I J Q := rS f140_34 rfl
theorem x140_35 : Rn S 140 35 [v0, v1] (.int b :: .int a :: .ref q :: st) I J Q = (zas S q a ∧ Rn S 140 36 [v0, v1] st (zr I q (upd (I q) a.toNatClampNeg b)) J Q) := rIas f140_35
theorem x140_36 : Rn S 140 36 [.ref q, v1] st I J Q = Rn S 140 37 [.ref q, v1] (.ref q :: st) I J Q := rL f140_36 rfl rfl
theorem x140_37_65 : Rn (zG xl) 140 37 [v0, v1] (.ref 65 :: st) I J Q = Rn (zG xl) 140 40 [v0, v1] (.ref 82 :: st) I J Q := (rGf f140_37 rfl).trans (tr_and rfl)
theorem x140_40 : Rn S 140 40 [v0, .int a] st I J Q = Rn S 140 41 [v0, .int a] (.int a :: st) I J Q := rL f140_40 rfl rfl
theorem x140_41 : Rn S 140 41 [v0, v1] st I J Q = Rn S 140 42 [v0, v1] (.int (-1) :: st) I J Q := rS f140_41 rfl
theorem x140_42 : Rn S 140 42 [v0, v1] (.int b :: .int a :: .ref q :: st) I J Q = (zas S q a ∧ Rn S 140 43 [v0, v1] st (zr I q (upd (I q) a.toNatClampNeg b)) J Q) := rIas f140_42
theorem x140_43 : Rn S 140 43 [.ref q, v1] st I J Q = Rn S 140 44 [.ref q, v1] (.ref q :: st) I J Q := rL f140_43 rfl rfl
theorem x140_44_65 : Rn (zG xl) 140 44 [v0, v1] (.ref 65 :: st) I J Q = Rn (zG xl) 140 47 [v0, v1] (.ref 83 :: st) I J Q := (rGf f140_44 rfl).trans (tr_and rfl)
theorem x140_47 : Rn S 140 47 [v0, .int a] st I J Q = Rn S 140 48 [v0, .int a] (.int a :: st) I J Q := rL f140_47 rfl rfl
theorem x140_48 : Rn S 140 48 [v0, v1] st I J Q = Rn S 140 49 [v0, v1] (.int 0 :: st) I J Q := rS f140_48 rfl
theorem x140_49 : Rn S 140 49 [v0, v1] (.int b :: .int a :: .ref q :: st) I J Q = ((zac S q a ∧ (b = 0 ∨ b = 1)) ∧ Rn S 140 50 [v0, v1] st (zr I q (upd (I q) a.toNatClampNeg b)) J Q) := rBas f140_49
theorem x140_50 : Rn S 140 50 [v0, .int a] st I J Q = Rn S 140 53 [zkl v0, .int (a + 1)] st I J Q := rL f140_50 rfl rfl
theorem x140_53 : Rn S 140 53 [v0, v1] st I J Q = Rn S 140 2 [v0, v1] st I J Q := rB f140_53 rfl rfl rfl
theorem x140_56 : Rn S 140 56 [v0, v1] st I J Q = Rn S 140 57 [v0, v1] (.int 0 :: st) I J Q := rS f140_56 rfl
theorem x140_57 : Rn S 140 57 [v0, v1] (.int a :: st) I J Q = Rn S 140 58 [zkl v0, .int a] st I J Q := rL f140_57 rfl rfl
theorem h140_58 : Rn S 140 58 [v0, .int a] st I J Q = Rn S 140 59 [v0, .int a] (.int a :: st) I J Q := rL f140_58 rfl rfl
theorem x140_59 : Rn S 140 59 [v0, v1] st I J Q = Rn S 140 61 [v0, v1] (.int 10 :: st) I J Q := rS f140_59 rfl
theorem x140_61 : Rn S 140 61 [v0, v1] (.int b :: .int a :: st) I J Q = if a < b then Rn S 140 64 [v0, v1] st I J Q else Rn S 140 91 [v0, v1] st I J Q := rCge f140_61 rfl rfl
theorem x140_64 : Rn S 140 64 [.ref q, v1] st I J Q = Rn S 140 65 [.ref q, v1] (.ref q :: st) I J Q := rL f140_64 rfl rfl
theorem x140_65_65 : Rn (zG xl) 140 65 [v0, v1] (.ref 65 :: st) I J Q = Rn (zG xl) 140 68 [v0, v1] (.ref 84 :: st) I J Q := (rGf f140_65 rfl).trans (tr_and rfl)
theorem x140_68 : Rn S 140 68 [v0, .int a] st I J Q = Rn S 140 69 [v0, .int a] (.int a :: st) I J Q := rL f140_68 rfl rfl
theorem x140_69 : Rn S 140 69 [v0, v1] st I J Q = Rn S 140 70 [v0, v1] (.int (-1) :: st) I J Q := rS f140_69 rfl
theorem x140_70 : Rn S 140 70 [v0, v1] (.int b :: .int a :: .ref q :: st) I J Q = (zas S q a ∧ Rn S 140 71 [v0, v1] st (zr I q (upd (I q) a.toNatClampNeg b)) J Q) := rIas f140_70
theorem x140_71 : Rn S 140 71 [.ref q, v1] st I J Q = Rn S 140 72 [.ref q, v1] (.ref q :: st) I J Q := rL f140_71 rfl rfl
theorem x140_72_65 : Rn (zG xl) 140 72 [v0, v1] (.ref 65 :: st) I J Q = Rn (zG xl) 140 75 [v0, v1] (.ref 85 :: st) I J Q := (rGf f140_72 rfl).trans (tr_and rfl)
theorem x140_75 : Rn S 140 75 [v0, .int a] st I J Q = Rn S 140 76 [v0, .int a] (.int a :: st) I J Q := rL f140_75 rfl rfl
theorem x140_76 : Rn S 140 76 [v0, v1] st I J Q = Rn S 140 77 [v0, v1] (.int (-1) :: st) I J Q := rS f140_76 rfl
theorem x140_77 : Rn S 140 77 [v0, v1] (.int b :: .int a :: .ref q :: st) I J Q = (zas S q a ∧ Rn S 140 78 [v0, v1] st (zr I q (upd (I q) a.toNatClampNeg b)) J Q) := rIas f140_77
theorem x140_78 : Rn S 140 78 [.ref q, v1] st I J Q = Rn S 140 79 [.ref q, v1] (.ref q :: st) I J Q := rL f140_78 rfl rfl
theorem x140_79_65 : Rn (zG xl) 140 79 [v0, v1] (.ref 65 :: st) I J Q = Rn (zG xl) 140 82 [v0, v1] (.ref 86 :: st) I J Q := (rGf f140_79 rfl).trans (tr_and rfl)
theorem x140_82 : Rn S 140 82 [v0, .int a] st I J Q = Rn S 140 83 [v0, .int a] (.int a :: st) I J Q := rL f140_82 rfl rfl
theorem x140_83 : Rn S 140 83 [v0, v1] st I J Q = Rn S 140 84 [v0, v1] (.int 0 :: st) I J Q := rS f140_83 rfl
theorem x140_84 : Rn S 140 84 [v0, v1] (.int b :: .int a :: .ref q :: st) I J Q = (zas S q a ∧ Rn S 140 85 [v0, v1] st (zr I q (upd (I q) a.toNatClampNeg b)) J Q) := rIas f140_84
theorem x140_85 : Rn S 140 85 [v0, .int a] st I J Q = Rn S 140 88 [zkl v0, .int (a + 1)] st I J Q := rL f140_85 rfl rfl
theorem x140_88 : Rn S 140 88 [v0, v1] st I J Q = Rn S 140 58 [v0, v1] st I J Q := rB f140_88 rfl rfl rfl
theorem x140_91 : Rn S 140 91 [v0, v1] st I J Q = Rn S 140 92 [v0, v1] (.int 0 :: st) I J Q := rS f140_91 rfl
theorem x140_92 : Rn S 140 92 [v0, v1] (.int a :: st) I J Q = Rn S 140 93 [zkl v0, .int a] st I J Q := rL f140_92 rfl rfl
theorem h140_93 : Rn S 140 93 [v0, .int a] st I J Q = Rn S 140 94 [v0, .int a] (.int a :: st) I J Q := rL f140_93 rfl rfl
theorem x140_94 : Rn S 140 94 [.ref q, v1] st I J Q = Rn S 140 95 [.ref q, v1] (.ref q :: st) I J Q := rL f140_94 rfl rfl
theorem x140_95_65 : Rn (zG xl) 140 95 [v0, v1] (.ref 65 :: st) I J Q = Rn (zG xl) 140 98 [v0, v1] (.int (I 65 11) :: st) I J Q := (rGf f140_95 rfl).trans (tr_and rfl)
theorem x140_98 : Rn S 140 98 [v0, v1] (.int b :: .int a :: st) I J Q = if a < b then Rn S 140 101 [v0, v1] st I J Q else Rn S 140 112 [v0, v1] st I J Q := rCge f140_98 rfl rfl
theorem x140_101 : Rn S 140 101 [.ref q, v1] st I J Q = Rn S 140 102 [.ref q, v1] (.ref q :: st) I J Q := rL f140_101 rfl rfl
theorem x140_102 : Rn S 140 102 [v0, .int a] st I J Q = Rn S 140 103 [v0, .int a] (.int a :: st) I J Q := rL f140_102 rfl rfl
theorem x140_103 : Rn S 140 103 [v0, v1] (.int a0 :: .ref q :: st) I J Q = ((zcls S q = 6 ∧ zcs st ≤ 8) ∧ Rn S 139 0 [.ref q, .int a0, .null, .null, .null, .null, .null, .null, .null, .null] [] I J (fun v I' J' => Rn S 140 106 [v0, v1] (v.toList ++ st) I' J' Q)) := rCV (As := [.int a0]) f140_103 rfl rfl rfl rfl (Nat.le_of_ble_eq_true rfl)
theorem x140_106 : Rn S 140 106 [v0, .int a] st I J Q = Rn S 140 109 [zkl v0, .int (a + 1)] st I J Q := rL f140_106 rfl rfl
theorem x140_109 : Rn S 140 109 [v0, v1] st I J Q = Rn S 140 93 [v0, v1] st I J Q := rB f140_109 rfl rfl rfl
theorem x140_112 : Rn S 140 112 [v0, v1] [] I J Q = Q none I J := rR f140_112 rfl rfl rfl rfl rfl
/-! X6.find: 141 -/
theorem B141 : zB 141 = cX6_find := rfl
theorem f141_0 : zft 141 0 = some (.aload_n 0, 1) := fet B141 (by decide +kernel) (Or.inr rfl)
theorem f141_1 : zft 141 1 = some (.invokevirtual 140, 3) := fet B141 (by decide +kernel) (Or.inr rfl)
theorem f141_4 : zft 141 4 = some (.pop, 1) := fet B141 (by decide +kernel) (Or.inr rfl)
theorem f141_5 : zft 141 5 = some (.aload_n 0, 1) := fet B141 (by decide +kernel) (Or.inr rfl)
theorem f141_6 : zft 141 6 = some (.invokevirtual 144, 3) := fet B141 (by decide +kernel) (Or.inr rfl)
theorem f141_9 : zft 141 9 = some (.pop, 1) := fet B141 (by decide +kernel) (Or.inr rfl)
theorem f141_10 : zft 141 10 = some (.aload_n 0, 1) := fet B141 (by decide +kernel) (Or.inr rfl)
theorem f141_11 : zft 141 11 = some (.invokevirtual 147, 3) := fet B141 (by decide +kernel) (Or.inr rfl)
theorem f141_14 : zft 141 14 = some (.pop, 1) := fet B141 (by decide +kernel) (Or.inr rfl)
theorem f141_15 : zft 141 15 = some (.aload_n 0, 1) := fet B141 (by decide +kernel) (Or.inr rfl)
theorem f141_16 : zft 141 16 = some (.invokevirtual 202, 3) := fet B141 (by decide +kernel) (Or.inr rfl)
theorem f141_19 : zft 141 19 = some (.return_, 1) := fet B141 (by decide +kernel) (Or.inr rfl)
theorem x141_0 : Rn S 141 0 [.ref q] st I J Q = Rn S 141 1 [.ref q] (.ref q :: st) I J Q := rL f141_0 rfl rfl
theorem x141_1 : Rn S 141 1 [v0] (.ref q :: st) I J Q = ((zcls S q = 6 ∧ zcs st ≤ 8) ∧ Rn S 119 0 [.ref q, .null, .null, .null, .null] [] I J (fun v I' J' => Rn S 141 4 [v0] (v.toList ++ st) I' J' Q)) := rCV (As := []) f141_1 rfl rfl rfl rfl (Nat.le_of_ble_eq_true rfl)
theorem x141_4i : Rn S 141 4 [v0] (.int a :: st) I J Q = Rn S 141 5 [v0] st I J Q := rS f141_4 rfl
theorem x141_4r : Rn S 141 4 [v0] (.ref q :: st) I J Q = Rn S 141 5 [v0] st I J Q := rS f141_4 rfl
theorem x141_5 : Rn S 141 5 [.ref q] st I J Q = Rn S 141 6 [.ref q] (.ref q :: st) I J Q := rL f141_5 rfl rfl
theorem x141_6 : Rn S 141 6 [v0] (.ref q :: st) I J Q = ((zcls S q = 6 ∧ zcs st ≤ 8) ∧ Rn S 121 0 [.ref q, .null, .null, .null, .null] [] I J (fun v I' J' => Rn S 141 9 [v0] (v.toList ++ st) I' J' Q)) := rCV (As := []) f141_6 rfl rfl rfl rfl (Nat.le_of_ble_eq_true rfl)
theorem x141_9i : Rn S 141 9 [v0] (.int a :: st) I J Q = Rn S 141 10 [v0] st I J Q := rS f141_9 rfl
theorem x141_9r : Rn S 141 9 [v0] (.ref q :: st) I J Q = Rn S 141 10 [v0] st I J Q := rS f141_9 rfl
theorem x141_10 : Rn S 141 10 [.ref q] st I J Q = Rn S 141 11 [.ref q] (.ref q :: st) I J Q := rL f141_10 rfl rfl
theorem x141_11 : Rn S 141 11 [v0] (.ref q :: st) I J Q = ((zcls S q = 6 ∧ zcs st ≤ 8) ∧ Rn S 123 0 [.ref q, .null, .null, .null, .null] [] I J (fun v I' J' => Rn S 141 14 [v0] (v.toList ++ st) I' J' Q)) := rCV (As := []) f141_11 rfl rfl rfl rfl (Nat.le_of_ble_eq_true rfl)
theorem x141_14i : Rn S 141 14 [v0] (.int a :: st) I J Q = Rn S 141 15 [v0] st I J Q := rS f141_14 rfl
theorem x141_14r : Rn S 141 14 [v0] (.ref q :: st) I J Q = Rn S 141 15 [v0] st I J Q := rS f141_14 rfl
theorem x141_15 : Rn S 141 15 [.ref q] st I J Q = Rn S 141 16 [.ref q] (.ref q :: st) I J Q := rL f141_15 rfl rfl
theorem x141_16 : Rn S 141 16 [v0] (.ref q :: st) I J Q = ((zcls S q = 6 ∧ zcs st ≤ 8) ∧ Rn S 140 0 [.ref q, .null] [] I J (fun v I' J' => Rn S 141 19 [v0] (v.toList ++ st) I' J' Q)) := rCV (As := []) f141_16 rfl rfl rfl rfl (Nat.le_of_ble_eq_true rfl)
theorem x141_19 : Rn S 141 19 [v0] [] I J Q = Q none I J := rR f141_19 rfl rfl rfl rfl rfl
/-! X6.marginOf: 142 -/
theorem B142 : zB 142 = cX6_marginOf := rfl
theorem f142_0 : zft 142 0 = some (.iload_n 2, 1) := fet B142 (by decide +kernel) (Or.inr rfl)
theorem f142_1 : zft 142 1 = some (.ifCond .ne 12, 3) := fet B142 (by decide +kernel) (Or.inr rfl)
theorem f142_4 : zft 142 4 = some (.aload_n 0, 1) := fet B142 (by decide +kernel) (Or.inr rfl)
theorem f142_5 : zft 142 5 = some (.getfield 65, 3) := fet B142 (by decide +kernel) (Or.inr rfl)
theorem f142_8 : zft 142 8 = some (.iload_n 1, 1) := fet B142 (by decide +kernel) (Or.inr rfl)
theorem f142_9 : zft 142 9 = some (.iaload, 1) := fet B142 (by decide +kernel) (Or.inr rfl)
theorem f142_10 : zft 142 10 = some (.goto 23, 3) := fet B142 (by decide +kernel) (Or.inr rfl)
theorem f142_13 : zft 142 13 = some (.iload_n 2, 1) := fet B142 (by decide +kernel) (Or.inr rfl)
theorem f142_14 : zft 142 14 = some (.iconst 1, 1) := fet B142 (by decide +kernel) (Or.inr rfl)
theorem f142_15 : zft 142 15 = some (.if_icmp .ne 12, 3) := fet B142 (by decide +kernel) (Or.inr rfl)
theorem f142_18 : zft 142 18 = some (.aload_n 0, 1) := fet B142 (by decide +kernel) (Or.inr rfl)
theorem f142_19 : zft 142 19 = some (.getfield 68, 3) := fet B142 (by decide +kernel) (Or.inr rfl)
theorem f142_22 : zft 142 22 = some (.iload_n 1, 1) := fet B142 (by decide +kernel) (Or.inr rfl)
theorem f142_23 : zft 142 23 = some (.iaload, 1) := fet B142 (by decide +kernel) (Or.inr rfl)
theorem f142_24 : zft 142 24 = some (.goto 9, 3) := fet B142 (by decide +kernel) (Or.inr rfl)
theorem f142_27 : zft 142 27 = some (.aload_n 0, 1) := fet B142 (by decide +kernel) (Or.inr rfl)
theorem f142_28 : zft 142 28 = some (.getfield 71, 3) := fet B142 (by decide +kernel) (Or.inr rfl)
theorem f142_31 : zft 142 31 = some (.iload_n 1, 1) := fet B142 (by decide +kernel) (Or.inr rfl)
theorem f142_32 : zft 142 32 = some (.iaload, 1) := fet B142 (by decide +kernel) (Or.inr rfl)
theorem f142_33 : zft 142 33 = some (.ireturn, 1) := fet B142 (by decide +kernel) (Or.inr rfl)
theorem x142_0 : Rn S 142 0 [v0, v1, .int a] st I J Q = Rn S 142 1 [v0, v1, .int a] (.int a :: st) I J Q := rL f142_0 rfl rfl
theorem x142_1 : Rn S 142 1 [v0, v1, v2] (.int a :: st) I J Q = if a = 0 then Rn S 142 4 [v0, v1, v2] st I J Q else Rn S 142 13 [v0, v1, v2] st I J Q := rIne f142_1 rfl rfl
theorem x142_4 : Rn S 142 4 [.ref q, v1, v2] st I J Q = Rn S 142 5 [.ref q, v1, v2] (.ref q :: st) I J Q := rL f142_4 rfl rfl
theorem x142_5_65 : Rn (zG xl) 142 5 [v0, v1, v2] (.ref 65 :: st) I J Q = Rn (zG xl) 142 8 [v0, v1, v2] (.ref 84 :: st) I J Q := (rGf f142_5 rfl).trans (tr_and rfl)
theorem x142_8 : Rn S 142 8 [v0, .int a, v2] st I J Q = Rn S 142 9 [v0, .int a, v2] (.int a :: st) I J Q := rL f142_8 rfl rfl
theorem x142_9 : Rn S 142 9 [v0, v1, v2] (.int a :: .ref q :: st) I J Q = (zai S q a ∧ Rn S 142 10 [v0, v1, v2] (.int (I q a.toNatClampNeg) :: st) I J Q) := rIal f142_9
theorem x142_10 : Rn S 142 10 [v0, v1, v2] st I J Q = Rn S 142 33 [v0, v1, v2] st I J Q := rB f142_10 rfl rfl rfl
theorem x142_13 : Rn S 142 13 [v0, v1, .int a] st I J Q = Rn S 142 14 [v0, v1, .int a] (.int a :: st) I J Q := rL f142_13 rfl rfl
theorem x142_14 : Rn S 142 14 [v0, v1, v2] st I J Q = Rn S 142 15 [v0, v1, v2] (.int 1 :: st) I J Q := rS f142_14 rfl
theorem x142_15 : Rn S 142 15 [v0, v1, v2] (.int b :: .int a :: st) I J Q = if a = b then Rn S 142 18 [v0, v1, v2] st I J Q else Rn S 142 27 [v0, v1, v2] st I J Q := rCne f142_15 rfl rfl
theorem x142_18 : Rn S 142 18 [.ref q, v1, v2] st I J Q = Rn S 142 19 [.ref q, v1, v2] (.ref q :: st) I J Q := rL f142_18 rfl rfl
theorem x142_19_65 : Rn (zG xl) 142 19 [v0, v1, v2] (.ref 65 :: st) I J Q = Rn (zG xl) 142 22 [v0, v1, v2] (.ref 85 :: st) I J Q := (rGf f142_19 rfl).trans (tr_and rfl)
theorem x142_22 : Rn S 142 22 [v0, .int a, v2] st I J Q = Rn S 142 23 [v0, .int a, v2] (.int a :: st) I J Q := rL f142_22 rfl rfl
theorem x142_23 : Rn S 142 23 [v0, v1, v2] (.int a :: .ref q :: st) I J Q = (zai S q a ∧ Rn S 142 24 [v0, v1, v2] (.int (I q a.toNatClampNeg) :: st) I J Q) := rIal f142_23
theorem x142_24 : Rn S 142 24 [v0, v1, v2] st I J Q = Rn S 142 33 [v0, v1, v2] st I J Q := rB f142_24 rfl rfl rfl
theorem x142_27 : Rn S 142 27 [.ref q, v1, v2] st I J Q = Rn S 142 28 [.ref q, v1, v2] (.ref q :: st) I J Q := rL f142_27 rfl rfl
theorem x142_28_65 : Rn (zG xl) 142 28 [v0, v1, v2] (.ref 65 :: st) I J Q = Rn (zG xl) 142 31 [v0, v1, v2] (.ref 86 :: st) I J Q := (rGf f142_28 rfl).trans (tr_and rfl)
theorem x142_31 : Rn S 142 31 [v0, .int a, v2] st I J Q = Rn S 142 32 [v0, .int a, v2] (.int a :: st) I J Q := rL f142_31 rfl rfl
theorem x142_32 : Rn S 142 32 [v0, v1, v2] (.int a :: .ref q :: st) I J Q = (zai S q a ∧ Rn S 142 33 [v0, v1, v2] (.int (I q a.toNatClampNeg) :: st) I J Q) := rIal f142_32
theorem x142_33 : Rn S 142 33 [v0, v1, v2] [.int a] I J Q = Q (some (.int a)) I J := rR f142_33 rfl rfl rfl rfl rfl
/-! X6.margin: 143 -/
theorem B143 : zB 143 = cX6_margin := rfl
theorem f143_0 : zft 143 0 = some (.aload_n 0, 1) := fet B143 (by decide +kernel) (Or.inr rfl)
theorem f143_1 : zft 143 1 = some (.invokevirtual 205, 3) := fet B143 (by decide +kernel) (Or.inr rfl)
theorem f143_4 : zft 143 4 = some (.aload_n 0, 1) := fet B143 (by decide +kernel) (Or.inr rfl)
theorem f143_5 : zft 143 5 = some (.iload_n 1, 1) := fet B143 (by decide +kernel) (Or.inr rfl)
theorem f143_6 : zft 143 6 = some (.invokevirtual 155, 3) := fet B143 (by decide +kernel) (Or.inr rfl)
theorem f143_9 : zft 143 9 = some (.ifCond .eq 24, 3) := fet B143 (by decide +kernel) (Or.inr rfl)
theorem f143_12 : zft 143 12 = some (.iload_n 2, 1) := fet B143 (by decide +kernel) (Or.inr rfl)
theorem f143_13 : zft 143 13 = some (.i2l, 1) := fet B143 (by decide +kernel) (Or.inr rfl)
theorem f143_14 : zft 143 14 = some (.lconst 0, 1) := fet B143 (by decide +kernel) (Or.inr rfl)
theorem f143_15 : zft 143 15 = some (.ldc2_w 99, 3) := fet B143 (by decide +kernel) (Or.inr rfl)
theorem f143_18 : zft 143 18 = some (.invokestatic 86, 3) := fet B143 (by decide +kernel) (Or.inr rfl)
theorem f143_21 : zft 143 21 = some (.ifCond .eq 12, 3) := fet B143 (by decide +kernel) (Or.inr rfl)
theorem f143_24 : zft 143 24 = some (.aload_n 0, 1) := fet B143 (by decide +kernel) (Or.inr rfl)
theorem f143_25 : zft 143 25 = some (.iload_n 1, 1) := fet B143 (by decide +kernel) (Or.inr rfl)
theorem f143_26 : zft 143 26 = some (.iload_n 2, 1) := fet B143 (by decide +kernel) (Or.inr rfl)
theorem f143_27 : zft 143 27 = some (.invokevirtual 208, 3) := fet B143 (by decide +kernel) (Or.inr rfl)
theorem f143_30 : zft 143 30 = some (.goto 5, 3) := fet B143 (by decide +kernel) (Or.inr rfl)
theorem f143_33 : zft 143 33 = some (.bipush (-2), 2) := fet B143 (by decide +kernel) (Or.inr rfl)
theorem f143_35 : zft 143 35 = some (.ireturn, 1) := fet B143 (by decide +kernel) (Or.inr rfl)
theorem x143_0 : Rn S 143 0 [.ref q, v1, v2] st I J Q = Rn S 143 1 [.ref q, v1, v2] (.ref q :: st) I J Q := rL f143_0 rfl rfl
theorem x143_1 : Rn S 143 1 [v0, v1, v2] (.ref q :: st) I J Q = ((zcls S q = 6 ∧ zcs st ≤ 8) ∧ Rn S 141 0 [.ref q] [] I J (fun v I' J' => Rn S 143 4 [v0, v1, v2] (v.toList ++ st) I' J' Q)) := rCV (As := []) f143_1 rfl rfl rfl rfl (Nat.le_of_ble_eq_true rfl)
theorem x143_4 : Rn S 143 4 [.ref q, v1, v2] st I J Q = Rn S 143 5 [.ref q, v1, v2] (.ref q :: st) I J Q := rL f143_4 rfl rfl
theorem x143_5 : Rn S 143 5 [v0, .int a, v2] st I J Q = Rn S 143 6 [v0, .int a, v2] (.int a :: st) I J Q := rL f143_5 rfl rfl
theorem x143_6 : Rn S 143 6 [v0, v1, v2] (.int a0 :: .ref q :: st) I J Q = ((zcls S q = 6 ∧ zcs st ≤ 8) ∧ Rn S 126 0 [.ref q, .int a0] [] I J (fun v I' J' => Rn S 143 9 [v0, v1, v2] (v.toList ++ st) I' J' Q)) := rCV (As := [.int a0]) f143_6 rfl rfl rfl rfl (Nat.le_of_ble_eq_true rfl)
theorem x143_9 : Rn S 143 9 [v0, v1, v2] (.int a :: st) I J Q = if a = 0 then Rn S 143 33 [v0, v1, v2] st I J Q else Rn S 143 12 [v0, v1, v2] st I J Q := rIeq f143_9 rfl rfl
theorem x143_12 : Rn S 143 12 [v0, v1, .int a] st I J Q = Rn S 143 13 [v0, v1, .int a] (.int a :: st) I J Q := rL f143_12 rfl rfl
theorem x143_13 : Rn S 143 13 [v0, v1, v2] (.int a :: st) I J Q = Rn S 143 14 [v0, v1, v2] (.long a.toInt64 :: st) I J Q := rS f143_13 rfl
theorem x143_14 : Rn S 143 14 [v0, v1, v2] st I J Q = Rn S 143 15 [v0, v1, v2] (.long 0 :: st) I J Q := rS f143_14 rfl
theorem x143_15 : Rn S 143 15 [v0, v1, v2] st I J Q = Rn S 143 18 [v0, v1, v2] (.long 2 :: st) I J Q := rS f143_15 rfl
theorem x143_18 : Rn S 143 18 [v0, v1, v2] (.long u2 :: .long u1 :: .long u0 :: st) I J Q = (zcs st ≤ 8 ∧ Rn S 96 0 [.long u0, .null, .long u1, .null, .long u2, .null] [] I J (fun v I' J' => Rn S 143 21 [v0, v1, v2] (v.toList ++ st) I' J' Q)) := rCS (As := [.long u0, .long u1, .long u2]) f143_18 rfl rfl rfl rfl (Nat.le_of_ble_eq_true rfl)
theorem x143_21 : Rn S 143 21 [v0, v1, v2] (.int a :: st) I J Q = if a = 0 then Rn S 143 33 [v0, v1, v2] st I J Q else Rn S 143 24 [v0, v1, v2] st I J Q := rIeq f143_21 rfl rfl
theorem x143_24 : Rn S 143 24 [.ref q, v1, v2] st I J Q = Rn S 143 25 [.ref q, v1, v2] (.ref q :: st) I J Q := rL f143_24 rfl rfl
theorem x143_25 : Rn S 143 25 [v0, .int a, v2] st I J Q = Rn S 143 26 [v0, .int a, v2] (.int a :: st) I J Q := rL f143_25 rfl rfl
theorem x143_26 : Rn S 143 26 [v0, v1, .int a] st I J Q = Rn S 143 27 [v0, v1, .int a] (.int a :: st) I J Q := rL f143_26 rfl rfl
theorem x143_27 : Rn S 143 27 [v0, v1, v2] (.int a1 :: .int a0 :: .ref q :: st) I J Q = ((zcls S q = 6 ∧ zcs st ≤ 8) ∧ Rn S 142 0 [.ref q, .int a0, .int a1] [] I J (fun v I' J' => Rn S 143 30 [v0, v1, v2] (v.toList ++ st) I' J' Q)) := rCV (As := [.int a0, .int a1]) f143_27 rfl rfl rfl rfl (Nat.le_of_ble_eq_true rfl)
theorem x143_30 : Rn S 143 30 [v0, v1, v2] st I J Q = Rn S 143 35 [v0, v1, v2] st I J Q := rB f143_30 rfl rfl rfl
theorem x143_33 : Rn S 143 33 [v0, v1, v2] st I J Q = Rn S 143 35 [v0, v1, v2] (.int (-2) :: st) I J Q := rS f143_33 rfl
theorem x143_35 : Rn S 143 35 [v0, v1, v2] [.int a] I J Q = Q (some (.int a)) I J := rR f143_35 rfl rfl rfl rfl rfl
/-! X6.nightOf: 144 -/
theorem B144 : zB 144 = cX6_nightOf := rfl
theorem f144_0 : zft 144 0 = some (.iload_n 2, 1) := fet B144 (by decide +kernel) (Or.inr rfl)
theorem f144_1 : zft 144 1 = some (.tableswitch 50 0 2 #[27, 34, 41], 27) := fet B144 (by decide +kernel) (Or.inl rfl)
theorem f144_28 : zft 144 28 = some (.aload_n 0, 1) := fet B144 (by decide +kernel) (Or.inr rfl)
theorem f144_29 : zft 144 29 = some (.getfield 53, 3) := fet B144 (by decide +kernel) (Or.inr rfl)
theorem f144_32 : zft 144 32 = some (.iload_n 1, 1) := fet B144 (by decide +kernel) (Or.inr rfl)
theorem f144_33 : zft 144 33 = some (.iaload, 1) := fet B144 (by decide +kernel) (Or.inr rfl)
theorem f144_34 : zft 144 34 = some (.ireturn, 1) := fet B144 (by decide +kernel) (Or.inr rfl)
theorem f144_35 : zft 144 35 = some (.aload_n 0, 1) := fet B144 (by decide +kernel) (Or.inr rfl)
theorem f144_36 : zft 144 36 = some (.getfield 50, 3) := fet B144 (by decide +kernel) (Or.inr rfl)
theorem f144_39 : zft 144 39 = some (.iload_n 1, 1) := fet B144 (by decide +kernel) (Or.inr rfl)
theorem f144_40 : zft 144 40 = some (.iaload, 1) := fet B144 (by decide +kernel) (Or.inr rfl)
theorem f144_41 : zft 144 41 = some (.ireturn, 1) := fet B144 (by decide +kernel) (Or.inr rfl)
theorem f144_42 : zft 144 42 = some (.aload_n 0, 1) := fet B144 (by decide +kernel) (Or.inr rfl)
theorem f144_43 : zft 144 43 = some (.getfield 47, 3) := fet B144 (by decide +kernel) (Or.inr rfl)
theorem f144_46 : zft 144 46 = some (.iload_n 1, 1) := fet B144 (by decide +kernel) (Or.inr rfl)
theorem f144_47 : zft 144 47 = some (.iaload, 1) := fet B144 (by decide +kernel) (Or.inr rfl)
theorem f144_48 : zft 144 48 = some (.iconst 1, 1) := fet B144 (by decide +kernel) (Or.inr rfl)
theorem f144_49 : zft 144 49 = some (.isub, 1) := fet B144 (by decide +kernel) (Or.inr rfl)
theorem f144_50 : zft 144 50 = some (.ireturn, 1) := fet B144 (by decide +kernel) (Or.inr rfl)
theorem f144_51 : zft 144 51 = some (.aload_n 0, 1) := fet B144 (by decide +kernel) (Or.inr rfl)
theorem f144_52 : zft 144 52 = some (.getfield 56, 3) := fet B144 (by decide +kernel) (Or.inr rfl)
theorem f144_55 : zft 144 55 = some (.iload_n 1, 1) := fet B144 (by decide +kernel) (Or.inr rfl)
theorem f144_56 : zft 144 56 = some (.iaload, 1) := fet B144 (by decide +kernel) (Or.inr rfl)
theorem f144_57 : zft 144 57 = some (.ireturn, 1) := fet B144 (by decide +kernel) (Or.inr rfl)
theorem x144_0 : Rn S 144 0 [v0, v1, .int a] st I J Q = Rn S 144 1 [v0, v1, .int a] (.int a :: st) I J Q := rL f144_0 rfl rfl
theorem x144_1 : Rn S 144 1 [v0, v1, v2] (.int a :: st) I J Q = Rn S 144 (ztb 51 a [28, 35, 42] 0) [v0, v1, v2] st I J Q := rTb f144_1 rfl (by decide +kernel) (by decide +kernel)
theorem x144_28 : Rn S 144 28 [.ref q, v1, v2] st I J Q = Rn S 144 29 [.ref q, v1, v2] (.ref q :: st) I J Q := rL f144_28 rfl rfl
theorem x144_29_65 : Rn (zG xl) 144 29 [v0, v1, v2] (.ref 65 :: st) I J Q = Rn (zG xl) 144 32 [v0, v1, v2] (.ref 80 :: st) I J Q := (rGf f144_29 rfl).trans (tr_and rfl)
theorem x144_32 : Rn S 144 32 [v0, .int a, v2] st I J Q = Rn S 144 33 [v0, .int a, v2] (.int a :: st) I J Q := rL f144_32 rfl rfl
theorem x144_33 : Rn S 144 33 [v0, v1, v2] (.int a :: .ref q :: st) I J Q = (zai S q a ∧ Rn S 144 34 [v0, v1, v2] (.int (I q a.toNatClampNeg) :: st) I J Q) := rIal f144_33
theorem x144_34 : Rn S 144 34 [v0, v1, v2] [.int a] I J Q = Q (some (.int a)) I J := rR f144_34 rfl rfl rfl rfl rfl
theorem x144_35 : Rn S 144 35 [.ref q, v1, v2] st I J Q = Rn S 144 36 [.ref q, v1, v2] (.ref q :: st) I J Q := rL f144_35 rfl rfl
theorem x144_36_65 : Rn (zG xl) 144 36 [v0, v1, v2] (.ref 65 :: st) I J Q = Rn (zG xl) 144 39 [v0, v1, v2] (.ref 79 :: st) I J Q := (rGf f144_36 rfl).trans (tr_and rfl)
theorem x144_39 : Rn S 144 39 [v0, .int a, v2] st I J Q = Rn S 144 40 [v0, .int a, v2] (.int a :: st) I J Q := rL f144_39 rfl rfl
theorem x144_40 : Rn S 144 40 [v0, v1, v2] (.int a :: .ref q :: st) I J Q = (zai S q a ∧ Rn S 144 41 [v0, v1, v2] (.int (I q a.toNatClampNeg) :: st) I J Q) := rIal f144_40
theorem x144_41 : Rn S 144 41 [v0, v1, v2] [.int a] I J Q = Q (some (.int a)) I J := rR f144_41 rfl rfl rfl rfl rfl
theorem x144_42 : Rn S 144 42 [.ref q, v1, v2] st I J Q = Rn S 144 43 [.ref q, v1, v2] (.ref q :: st) I J Q := rL f144_42 rfl rfl
theorem x144_43_65 : Rn (zG xl) 144 43 [v0, v1, v2] (.ref 65 :: st) I J Q = Rn (zG xl) 144 46 [v0, v1, v2] (.ref 78 :: st) I J Q := (rGf f144_43 rfl).trans (tr_and rfl)
theorem x144_46 : Rn S 144 46 [v0, .int a, v2] st I J Q = Rn S 144 47 [v0, .int a, v2] (.int a :: st) I J Q := rL f144_46 rfl rfl
theorem x144_47 : Rn S 144 47 [v0, v1, v2] (.int a :: .ref q :: st) I J Q = (zai S q a ∧ Rn S 144 48 [v0, v1, v2] (.int (I q a.toNatClampNeg) :: st) I J Q) := rIal f144_47
theorem x144_48 : Rn S 144 48 [v0, v1, v2] st I J Q = Rn S 144 49 [v0, v1, v2] (.int 1 :: st) I J Q := rS f144_48 rfl
theorem x144_49 : Rn S 144 49 [v0, v1, v2] (.int b :: .int a :: st) I J Q = Rn S 144 50 [v0, v1, v2] (.int (a - b) :: st) I J Q := rS f144_49 rfl
theorem x144_50 : Rn S 144 50 [v0, v1, v2] [.int a] I J Q = Q (some (.int a)) I J := rR f144_50 rfl rfl rfl rfl rfl
theorem x144_51 : Rn S 144 51 [.ref q, v1, v2] st I J Q = Rn S 144 52 [.ref q, v1, v2] (.ref q :: st) I J Q := rL f144_51 rfl rfl
theorem x144_52_65 : Rn (zG xl) 144 52 [v0, v1, v2] (.ref 65 :: st) I J Q = Rn (zG xl) 144 55 [v0, v1, v2] (.ref 81 :: st) I J Q := (rGf f144_52 rfl).trans (tr_and rfl)
theorem x144_55 : Rn S 144 55 [v0, .int a, v2] st I J Q = Rn S 144 56 [v0, .int a, v2] (.int a :: st) I J Q := rL f144_55 rfl rfl
theorem x144_56 : Rn S 144 56 [v0, v1, v2] (.int a :: .ref q :: st) I J Q = (zai S q a ∧ Rn S 144 57 [v0, v1, v2] (.int (I q a.toNatClampNeg) :: st) I J Q) := rIal f144_56
theorem x144_57 : Rn S 144 57 [v0, v1, v2] [.int a] I J Q = Q (some (.int a)) I J := rR f144_57 rfl rfl rfl rfl rfl
/-! X6.night: 145 -/
theorem B145 : zB 145 = cX6_night := rfl
theorem f145_0 : zft 145 0 = some (.aload_n 0, 1) := fet B145 (by decide +kernel) (Or.inr rfl)
theorem f145_1 : zft 145 1 = some (.invokevirtual 205, 3) := fet B145 (by decide +kernel) (Or.inr rfl)
theorem f145_4 : zft 145 4 = some (.aload_n 0, 1) := fet B145 (by decide +kernel) (Or.inr rfl)
theorem f145_5 : zft 145 5 = some (.iload_n 1, 1) := fet B145 (by decide +kernel) (Or.inr rfl)
theorem f145_6 : zft 145 6 = some (.invokevirtual 161, 3) := fet B145 (by decide +kernel) (Or.inr rfl)
theorem f145_9 : zft 145 9 = some (.ifCond .eq 24, 3) := fet B145 (by decide +kernel) (Or.inr rfl)
theorem f145_12 : zft 145 12 = some (.iload_n 2, 1) := fet B145 (by decide +kernel) (Or.inr rfl)
theorem f145_13 : zft 145 13 = some (.i2l, 1) := fet B145 (by decide +kernel) (Or.inr rfl)
theorem f145_14 : zft 145 14 = some (.lconst 0, 1) := fet B145 (by decide +kernel) (Or.inr rfl)
theorem f145_15 : zft 145 15 = some (.ldc2_w 93, 3) := fet B145 (by decide +kernel) (Or.inr rfl)
theorem f145_18 : zft 145 18 = some (.invokestatic 86, 3) := fet B145 (by decide +kernel) (Or.inr rfl)
theorem f145_21 : zft 145 21 = some (.ifCond .eq 12, 3) := fet B145 (by decide +kernel) (Or.inr rfl)
theorem f145_24 : zft 145 24 = some (.aload_n 0, 1) := fet B145 (by decide +kernel) (Or.inr rfl)
theorem f145_25 : zft 145 25 = some (.iload_n 1, 1) := fet B145 (by decide +kernel) (Or.inr rfl)
theorem f145_26 : zft 145 26 = some (.iload_n 2, 1) := fet B145 (by decide +kernel) (Or.inr rfl)
theorem f145_27 : zft 145 27 = some (.invokevirtual 211, 3) := fet B145 (by decide +kernel) (Or.inr rfl)
theorem f145_30 : zft 145 30 = some (.goto 5, 3) := fet B145 (by decide +kernel) (Or.inr rfl)
theorem f145_33 : zft 145 33 = some (.bipush (-2), 2) := fet B145 (by decide +kernel) (Or.inr rfl)
theorem f145_35 : zft 145 35 = some (.ireturn, 1) := fet B145 (by decide +kernel) (Or.inr rfl)
theorem x145_0 : Rn S 145 0 [.ref q, v1, v2] st I J Q = Rn S 145 1 [.ref q, v1, v2] (.ref q :: st) I J Q := rL f145_0 rfl rfl
theorem x145_1 : Rn S 145 1 [v0, v1, v2] (.ref q :: st) I J Q = ((zcls S q = 6 ∧ zcs st ≤ 8) ∧ Rn S 141 0 [.ref q] [] I J (fun v I' J' => Rn S 145 4 [v0, v1, v2] (v.toList ++ st) I' J' Q)) := rCV (As := []) f145_1 rfl rfl rfl rfl (Nat.le_of_ble_eq_true rfl)
theorem x145_4 : Rn S 145 4 [.ref q, v1, v2] st I J Q = Rn S 145 5 [.ref q, v1, v2] (.ref q :: st) I J Q := rL f145_4 rfl rfl
theorem x145_5 : Rn S 145 5 [v0, .int a, v2] st I J Q = Rn S 145 6 [v0, .int a, v2] (.int a :: st) I J Q := rL f145_5 rfl rfl
theorem x145_6 : Rn S 145 6 [v0, v1, v2] (.int a0 :: .ref q :: st) I J Q = ((zcls S q = 6 ∧ zcs st ≤ 8) ∧ Rn S 127 0 [.ref q, .int a0] [] I J (fun v I' J' => Rn S 145 9 [v0, v1, v2] (v.toList ++ st) I' J' Q)) := rCV (As := [.int a0]) f145_6 rfl rfl rfl rfl (Nat.le_of_ble_eq_true rfl)
theorem x145_9 : Rn S 145 9 [v0, v1, v2] (.int a :: st) I J Q = if a = 0 then Rn S 145 33 [v0, v1, v2] st I J Q else Rn S 145 12 [v0, v1, v2] st I J Q := rIeq f145_9 rfl rfl
theorem x145_12 : Rn S 145 12 [v0, v1, .int a] st I J Q = Rn S 145 13 [v0, v1, .int a] (.int a :: st) I J Q := rL f145_12 rfl rfl
theorem x145_13 : Rn S 145 13 [v0, v1, v2] (.int a :: st) I J Q = Rn S 145 14 [v0, v1, v2] (.long a.toInt64 :: st) I J Q := rS f145_13 rfl
theorem x145_14 : Rn S 145 14 [v0, v1, v2] st I J Q = Rn S 145 15 [v0, v1, v2] (.long 0 :: st) I J Q := rS f145_14 rfl
theorem x145_15 : Rn S 145 15 [v0, v1, v2] st I J Q = Rn S 145 18 [v0, v1, v2] (.long 3 :: st) I J Q := rS f145_15 rfl
theorem x145_18 : Rn S 145 18 [v0, v1, v2] (.long u2 :: .long u1 :: .long u0 :: st) I J Q = (zcs st ≤ 8 ∧ Rn S 96 0 [.long u0, .null, .long u1, .null, .long u2, .null] [] I J (fun v I' J' => Rn S 145 21 [v0, v1, v2] (v.toList ++ st) I' J' Q)) := rCS (As := [.long u0, .long u1, .long u2]) f145_18 rfl rfl rfl rfl (Nat.le_of_ble_eq_true rfl)
theorem x145_21 : Rn S 145 21 [v0, v1, v2] (.int a :: st) I J Q = if a = 0 then Rn S 145 33 [v0, v1, v2] st I J Q else Rn S 145 24 [v0, v1, v2] st I J Q := rIeq f145_21 rfl rfl
theorem x145_24 : Rn S 145 24 [.ref q, v1, v2] st I J Q = Rn S 145 25 [.ref q, v1, v2] (.ref q :: st) I J Q := rL f145_24 rfl rfl
theorem x145_25 : Rn S 145 25 [v0, .int a, v2] st I J Q = Rn S 145 26 [v0, .int a, v2] (.int a :: st) I J Q := rL f145_25 rfl rfl
theorem x145_26 : Rn S 145 26 [v0, v1, .int a] st I J Q = Rn S 145 27 [v0, v1, .int a] (.int a :: st) I J Q := rL f145_26 rfl rfl
theorem x145_27 : Rn S 145 27 [v0, v1, v2] (.int a1 :: .int a0 :: .ref q :: st) I J Q = ((zcls S q = 6 ∧ zcs st ≤ 8) ∧ Rn S 144 0 [.ref q, .int a0, .int a1] [] I J (fun v I' J' => Rn S 145 30 [v0, v1, v2] (v.toList ++ st) I' J' Q)) := rCV (As := [.int a0, .int a1]) f145_27 rfl rfl rfl rfl (Nat.le_of_ble_eq_true rfl)
theorem x145_30 : Rn S 145 30 [v0, v1, v2] st I J Q = Rn S 145 35 [v0, v1, v2] st I J Q := rB f145_30 rfl rfl rfl
theorem x145_33 : Rn S 145 33 [v0, v1, v2] st I J Q = Rn S 145 35 [v0, v1, v2] (.int (-2) :: st) I J Q := rS f145_33 rfl
theorem x145_35 : Rn S 145 35 [v0, v1, v2] [.int a] I J Q = Q (some (.int a)) I J := rR f145_35 rfl rfl rfl rfl rfl
/-! X6.doneOf: 146 -/
theorem B146 : zB 146 = cX6_doneOf := rfl
theorem f146_0 : zft 146 0 = some (.iload_n 2, 1) := fet B146 (by decide +kernel) (Or.inr rfl)
theorem f146_1 : zft 146 1 = some (.ifCond .ne 12, 3) := fet B146 (by decide +kernel) (Or.inr rfl)
theorem f146_4 : zft 146 4 = some (.aload_n 0, 1) := fet B146 (by decide +kernel) (Or.inr rfl)
theorem f146_5 : zft 146 5 = some (.getfield 40, 3) := fet B146 (by decide +kernel) (Or.inr rfl)
theorem f146_8 : zft 146 8 = some (.iload_n 1, 1) := fet B146 (by decide +kernel) (Or.inr rfl)
theorem f146_9 : zft 146 9 = some (.iaload, 1) := fet B146 (by decide +kernel) (Or.inr rfl)
theorem f146_10 : zft 146 10 = some (.goto 17, 3) := fet B146 (by decide +kernel) (Or.inr rfl)
theorem f146_13 : zft 146 13 = some (.aload_n 0, 1) := fet B146 (by decide +kernel) (Or.inr rfl)
theorem f146_14 : zft 146 14 = some (.getfield 43, 3) := fet B146 (by decide +kernel) (Or.inr rfl)
theorem f146_17 : zft 146 17 = some (.iload_n 1, 1) := fet B146 (by decide +kernel) (Or.inr rfl)
theorem f146_18 : zft 146 18 = some (.baload, 1) := fet B146 (by decide +kernel) (Or.inr rfl)
theorem f146_19 : zft 146 19 = some (.ifCond .eq 7, 3) := fet B146 (by decide +kernel) (Or.inr rfl)
theorem f146_22 : zft 146 22 = some (.iconst 1, 1) := fet B146 (by decide +kernel) (Or.inr rfl)
theorem f146_23 : zft 146 23 = some (.goto 4, 3) := fet B146 (by decide +kernel) (Or.inr rfl)
theorem f146_26 : zft 146 26 = some (.iconst 0, 1) := fet B146 (by decide +kernel) (Or.inr rfl)
theorem f146_27 : zft 146 27 = some (.ireturn, 1) := fet B146 (by decide +kernel) (Or.inr rfl)
theorem x146_0 : Rn S 146 0 [v0, v1, .int a] st I J Q = Rn S 146 1 [v0, v1, .int a] (.int a :: st) I J Q := rL f146_0 rfl rfl
theorem x146_1 : Rn S 146 1 [v0, v1, v2] (.int a :: st) I J Q = if a = 0 then Rn S 146 4 [v0, v1, v2] st I J Q else Rn S 146 13 [v0, v1, v2] st I J Q := rIne f146_1 rfl rfl
theorem x146_4 : Rn S 146 4 [.ref q, v1, v2] st I J Q = Rn S 146 5 [.ref q, v1, v2] (.ref q :: st) I J Q := rL f146_4 rfl rfl
theorem x146_5_65 : Rn (zG xl) 146 5 [v0, v1, v2] (.ref 65 :: st) I J Q = Rn (zG xl) 146 8 [v0, v1, v2] (.ref 76 :: st) I J Q := (rGf f146_5 rfl).trans (tr_and rfl)
theorem x146_8 : Rn S 146 8 [v0, .int a, v2] st I J Q = Rn S 146 9 [v0, .int a, v2] (.int a :: st) I J Q := rL f146_8 rfl rfl
theorem x146_9 : Rn S 146 9 [v0, v1, v2] (.int a :: .ref q :: st) I J Q = (zai S q a ∧ Rn S 146 10 [v0, v1, v2] (.int (I q a.toNatClampNeg) :: st) I J Q) := rIal f146_9
theorem x146_10 : Rn S 146 10 [v0, v1, v2] st I J Q = Rn S 146 27 [v0, v1, v2] st I J Q := rB f146_10 rfl rfl rfl
theorem x146_13 : Rn S 146 13 [.ref q, v1, v2] st I J Q = Rn S 146 14 [.ref q, v1, v2] (.ref q :: st) I J Q := rL f146_13 rfl rfl
theorem x146_14_65 : Rn (zG xl) 146 14 [v0, v1, v2] (.ref 65 :: st) I J Q = Rn (zG xl) 146 17 [v0, v1, v2] (.ref 77 :: st) I J Q := (rGf f146_14 rfl).trans (tr_and rfl)
theorem x146_17 : Rn S 146 17 [v0, .int a, v2] st I J Q = Rn S 146 18 [v0, .int a, v2] (.int a :: st) I J Q := rL f146_17 rfl rfl
theorem x146_18 : Rn S 146 18 [v0, v1, v2] (.int a :: .ref q :: st) I J Q = (zab S q a ∧ Rn S 146 19 [v0, v1, v2] (.int (zbv S I q a.toNatClampNeg) :: st) I J Q) := rBal f146_18
theorem x146_19 : Rn S 146 19 [v0, v1, v2] (.int a :: st) I J Q = if a = 0 then Rn S 146 26 [v0, v1, v2] st I J Q else Rn S 146 22 [v0, v1, v2] st I J Q := rIeq f146_19 rfl rfl
theorem x146_22 : Rn S 146 22 [v0, v1, v2] st I J Q = Rn S 146 23 [v0, v1, v2] (.int 1 :: st) I J Q := rS f146_22 rfl
theorem x146_23 : Rn S 146 23 [v0, v1, v2] st I J Q = Rn S 146 27 [v0, v1, v2] st I J Q := rB f146_23 rfl rfl rfl
theorem x146_26 : Rn S 146 26 [v0, v1, v2] st I J Q = Rn S 146 27 [v0, v1, v2] (.int 0 :: st) I J Q := rS f146_26 rfl
theorem x146_27 : Rn S 146 27 [v0, v1, v2] [.int a] I J Q = Q (some (.int a)) I J := rR f146_27 rfl rfl rfl rfl rfl
/-! X6.done: 147 -/
theorem B147 : zB 147 = cX6_done := rfl
theorem f147_0 : zft 147 0 = some (.aload_n 0, 1) := fet B147 (by decide +kernel) (Or.inr rfl)
theorem f147_1 : zft 147 1 = some (.invokevirtual 205, 3) := fet B147 (by decide +kernel) (Or.inr rfl)
theorem f147_4 : zft 147 4 = some (.iload_n 1, 1) := fet B147 (by decide +kernel) (Or.inr rfl)
theorem f147_5 : zft 147 5 = some (.i2l, 1) := fet B147 (by decide +kernel) (Or.inr rfl)
theorem f147_6 : zft 147 6 = some (.lconst 0, 1) := fet B147 (by decide +kernel) (Or.inr rfl)
theorem f147_7 : zft 147 7 = some (.aload_n 0, 1) := fet B147 (by decide +kernel) (Or.inr rfl)
theorem f147_8 : zft 147 8 = some (.getfield 134, 3) := fet B147 (by decide +kernel) (Or.inr rfl)
theorem f147_11 : zft 147 11 = some (.iconst 1, 1) := fet B147 (by decide +kernel) (Or.inr rfl)
theorem f147_12 : zft 147 12 = some (.isub, 1) := fet B147 (by decide +kernel) (Or.inr rfl)
theorem f147_13 : zft 147 13 = some (.i2l, 1) := fet B147 (by decide +kernel) (Or.inr rfl)
theorem f147_14 : zft 147 14 = some (.invokestatic 86, 3) := fet B147 (by decide +kernel) (Or.inr rfl)
theorem f147_17 : zft 147 17 = some (.ifCond .eq 19, 3) := fet B147 (by decide +kernel) (Or.inr rfl)
theorem f147_20 : zft 147 20 = some (.iload_n 2, 1) := fet B147 (by decide +kernel) (Or.inr rfl)
theorem f147_21 : zft 147 21 = some (.invokestatic 164, 3) := fet B147 (by decide +kernel) (Or.inr rfl)
theorem f147_24 : zft 147 24 = some (.ifCond .eq 12, 3) := fet B147 (by decide +kernel) (Or.inr rfl)
theorem f147_27 : zft 147 27 = some (.aload_n 0, 1) := fet B147 (by decide +kernel) (Or.inr rfl)
theorem f147_28 : zft 147 28 = some (.iload_n 1, 1) := fet B147 (by decide +kernel) (Or.inr rfl)
theorem f147_29 : zft 147 29 = some (.iload_n 2, 1) := fet B147 (by decide +kernel) (Or.inr rfl)
theorem f147_30 : zft 147 30 = some (.invokevirtual 214, 3) := fet B147 (by decide +kernel) (Or.inr rfl)
theorem f147_33 : zft 147 33 = some (.goto 5, 3) := fet B147 (by decide +kernel) (Or.inr rfl)
theorem f147_36 : zft 147 36 = some (.bipush (-2), 2) := fet B147 (by decide +kernel) (Or.inr rfl)
theorem f147_38 : zft 147 38 = some (.ireturn, 1) := fet B147 (by decide +kernel) (Or.inr rfl)
theorem x147_0 : Rn S 147 0 [.ref q, v1, v2] st I J Q = Rn S 147 1 [.ref q, v1, v2] (.ref q :: st) I J Q := rL f147_0 rfl rfl
theorem x147_1 : Rn S 147 1 [v0, v1, v2] (.ref q :: st) I J Q = ((zcls S q = 6 ∧ zcs st ≤ 8) ∧ Rn S 141 0 [.ref q] [] I J (fun v I' J' => Rn S 147 4 [v0, v1, v2] (v.toList ++ st) I' J' Q)) := rCV (As := []) f147_1 rfl rfl rfl rfl (Nat.le_of_ble_eq_true rfl)
theorem x147_4 : Rn S 147 4 [v0, .int a, v2] st I J Q = Rn S 147 5 [v0, .int a, v2] (.int a :: st) I J Q := rL f147_4 rfl rfl
theorem x147_5 : Rn S 147 5 [v0, v1, v2] (.int a :: st) I J Q = Rn S 147 6 [v0, v1, v2] (.long a.toInt64 :: st) I J Q := rS f147_5 rfl
theorem x147_6 : Rn S 147 6 [v0, v1, v2] st I J Q = Rn S 147 7 [v0, v1, v2] (.long 0 :: st) I J Q := rS f147_6 rfl
theorem x147_7 : Rn S 147 7 [.ref q, v1, v2] st I J Q = Rn S 147 8 [.ref q, v1, v2] (.ref q :: st) I J Q := rL f147_7 rfl rfl
theorem x147_8_65 : Rn (zG xl) 147 8 [v0, v1, v2] (.ref 65 :: st) I J Q = Rn (zG xl) 147 11 [v0, v1, v2] (.int (I 65 11) :: st) I J Q := (rGf f147_8 rfl).trans (tr_and rfl)
theorem x147_11 : Rn S 147 11 [v0, v1, v2] st I J Q = Rn S 147 12 [v0, v1, v2] (.int 1 :: st) I J Q := rS f147_11 rfl
theorem x147_12 : Rn S 147 12 [v0, v1, v2] (.int b :: .int a :: st) I J Q = Rn S 147 13 [v0, v1, v2] (.int (a - b) :: st) I J Q := rS f147_12 rfl
theorem x147_13 : Rn S 147 13 [v0, v1, v2] (.int a :: st) I J Q = Rn S 147 14 [v0, v1, v2] (.long a.toInt64 :: st) I J Q := rS f147_13 rfl
theorem x147_14 : Rn S 147 14 [v0, v1, v2] (.long u2 :: .long u1 :: .long u0 :: st) I J Q = (zcs st ≤ 8 ∧ Rn S 96 0 [.long u0, .null, .long u1, .null, .long u2, .null] [] I J (fun v I' J' => Rn S 147 17 [v0, v1, v2] (v.toList ++ st) I' J' Q)) := rCS (As := [.long u0, .long u1, .long u2]) f147_14 rfl rfl rfl rfl (Nat.le_of_ble_eq_true rfl)
theorem x147_17 : Rn S 147 17 [v0, v1, v2] (.int a :: st) I J Q = if a = 0 then Rn S 147 36 [v0, v1, v2] st I J Q else Rn S 147 20 [v0, v1, v2] st I J Q := rIeq f147_17 rfl rfl
theorem x147_20 : Rn S 147 20 [v0, v1, .int a] st I J Q = Rn S 147 21 [v0, v1, .int a] (.int a :: st) I J Q := rL f147_20 rfl rfl
theorem x147_21 : Rn S 147 21 [v0, v1, v2] (.int a0 :: st) I J Q = (zcs st ≤ 8 ∧ Rn S 98 0 [.int a0] [] I J (fun v I' J' => Rn S 147 24 [v0, v1, v2] (v.toList ++ st) I' J' Q)) := rCS (As := [.int a0]) f147_21 rfl rfl rfl rfl (Nat.le_of_ble_eq_true rfl)
theorem x147_24 : Rn S 147 24 [v0, v1, v2] (.int a :: st) I J Q = if a = 0 then Rn S 147 36 [v0, v1, v2] st I J Q else Rn S 147 27 [v0, v1, v2] st I J Q := rIeq f147_24 rfl rfl
theorem x147_27 : Rn S 147 27 [.ref q, v1, v2] st I J Q = Rn S 147 28 [.ref q, v1, v2] (.ref q :: st) I J Q := rL f147_27 rfl rfl
theorem x147_28 : Rn S 147 28 [v0, .int a, v2] st I J Q = Rn S 147 29 [v0, .int a, v2] (.int a :: st) I J Q := rL f147_28 rfl rfl
theorem x147_29 : Rn S 147 29 [v0, v1, .int a] st I J Q = Rn S 147 30 [v0, v1, .int a] (.int a :: st) I J Q := rL f147_29 rfl rfl
theorem x147_30 : Rn S 147 30 [v0, v1, v2] (.int a1 :: .int a0 :: .ref q :: st) I J Q = ((zcls S q = 6 ∧ zcs st ≤ 8) ∧ Rn S 146 0 [.ref q, .int a0, .int a1] [] I J (fun v I' J' => Rn S 147 33 [v0, v1, v2] (v.toList ++ st) I' J' Q)) := rCV (As := [.int a0, .int a1]) f147_30 rfl rfl rfl rfl (Nat.le_of_ble_eq_true rfl)
theorem x147_33 : Rn S 147 33 [v0, v1, v2] st I J Q = Rn S 147 38 [v0, v1, v2] st I J Q := rB f147_33 rfl rfl rfl
theorem x147_36 : Rn S 147 36 [v0, v1, v2] st I J Q = Rn S 147 38 [v0, v1, v2] (.int (-2) :: st) I J Q := rS f147_36 rfl
theorem x147_38 : Rn S 147 38 [v0, v1, v2] [.int a] I J Q = Q (some (.int a)) I J := rR f147_38 rfl rfl rfl rfl rfl
/-! X6.corrected: 148 -/
theorem B148 : zB 148 = cX6_corrected := rfl
theorem f148_0 : zft 148 0 = some (.iconst 0, 1) := fet B148 (by decide +kernel) (Or.inr rfl)
theorem f148_1 : zft 148 1 = some (.istore_n 2, 1) := fet B148 (by decide +kernel) (Or.inr rfl)
theorem f148_2 : zft 148 2 = some (.iconst 0, 1) := fet B148 (by decide +kernel) (Or.inr rfl)
theorem f148_3 : zft 148 3 = some (.istore_n 3, 1) := fet B148 (by decide +kernel) (Or.inr rfl)
theorem f148_4 : zft 148 4 = some (.iload_n 3, 1) := fet B148 (by decide +kernel) (Or.inr rfl)
theorem f148_5 : zft 148 5 = some (.aload_n 0, 1) := fet B148 (by decide +kernel) (Or.inr rfl)
theorem f148_6 : zft 148 6 = some (.getfield 122, 3) := fet B148 (by decide +kernel) (Or.inr rfl)
theorem f148_9 : zft 148 9 = some (.if_icmp .ge 39, 3) := fet B148 (by decide +kernel) (Or.inr rfl)
theorem f148_12 : zft 148 12 = some (.iload_n 2, 1) := fet B148 (by decide +kernel) (Or.inr rfl)
theorem f148_13 : zft 148 13 = some (.aload_n 0, 1) := fet B148 (by decide +kernel) (Or.inr rfl)
theorem f148_14 : zft 148 14 = some (.getfield 65, 3) := fet B148 (by decide +kernel) (Or.inr rfl)
theorem f148_17 : zft 148 17 = some (.iload_n 3, 1) := fet B148 (by decide +kernel) (Or.inr rfl)
theorem f148_18 : zft 148 18 = some (.iaload, 1) := fet B148 (by decide +kernel) (Or.inr rfl)
theorem f148_19 : zft 148 19 = some (.iconst (-1), 1) := fet B148 (by decide +kernel) (Or.inr rfl)
theorem f148_20 : zft 148 20 = some (.if_icmp .eq 19, 3) := fet B148 (by decide +kernel) (Or.inr rfl)
theorem f148_23 : zft 148 23 = some (.aload_n 0, 1) := fet B148 (by decide +kernel) (Or.inr rfl)
theorem f148_24 : zft 148 24 = some (.getfield 68, 3) := fet B148 (by decide +kernel) (Or.inr rfl)
theorem f148_27 : zft 148 27 = some (.iload_n 3, 1) := fet B148 (by decide +kernel) (Or.inr rfl)
theorem f148_28 : zft 148 28 = some (.iaload, 1) := fet B148 (by decide +kernel) (Or.inr rfl)
theorem f148_29 : zft 148 29 = some (.iload_n 1, 1) := fet B148 (by decide +kernel) (Or.inr rfl)
theorem f148_30 : zft 148 30 = some (.if_icmp .gt 9, 3) := fet B148 (by decide +kernel) (Or.inr rfl)
theorem f148_33 : zft 148 33 = some (.iconst 1, 1) := fet B148 (by decide +kernel) (Or.inr rfl)
theorem f148_34 : zft 148 34 = some (.iload_n 3, 1) := fet B148 (by decide +kernel) (Or.inr rfl)
theorem f148_35 : zft 148 35 = some (.ishl, 1) := fet B148 (by decide +kernel) (Or.inr rfl)
theorem f148_36 : zft 148 36 = some (.goto 4, 3) := fet B148 (by decide +kernel) (Or.inr rfl)
theorem f148_39 : zft 148 39 = some (.iconst 0, 1) := fet B148 (by decide +kernel) (Or.inr rfl)
theorem f148_40 : zft 148 40 = some (.ior, 1) := fet B148 (by decide +kernel) (Or.inr rfl)
theorem f148_41 : zft 148 41 = some (.istore_n 2, 1) := fet B148 (by decide +kernel) (Or.inr rfl)
theorem f148_42 : zft 148 42 = some (.iinc 3 1, 3) := fet B148 (by decide +kernel) (Or.inr rfl)
theorem f148_45 : zft 148 45 = some (.goto (-41), 3) := fet B148 (by decide +kernel) (Or.inr rfl)
theorem f148_48 : zft 148 48 = some (.iload_n 2, 1) := fet B148 (by decide +kernel) (Or.inr rfl)
theorem f148_49 : zft 148 49 = some (.ireturn, 1) := fet B148 (by decide +kernel) (Or.inr rfl)
theorem x148_0 : Rn S 148 0 [v0, v1, v2, v3] st I J Q = Rn S 148 1 [v0, v1, v2, v3] (.int 0 :: st) I J Q := rS f148_0 rfl
theorem x148_1 : Rn S 148 1 [v0, v1, v2, v3] (.int a :: st) I J Q = Rn S 148 2 [v0, zkl v1, .int a, v3] st I J Q := rL f148_1 rfl rfl
theorem x148_2 : Rn S 148 2 [v0, v1, v2, v3] st I J Q = Rn S 148 3 [v0, v1, v2, v3] (.int 0 :: st) I J Q := rS f148_2 rfl
theorem x148_3 : Rn S 148 3 [v0, v1, v2, v3] (.int a :: st) I J Q = Rn S 148 4 [v0, v1, zkl v2, .int a] st I J Q := rL f148_3 rfl rfl
theorem h148_4 : Rn S 148 4 [v0, v1, v2, .int a] st I J Q = Rn S 148 5 [v0, v1, v2, .int a] (.int a :: st) I J Q := rL f148_4 rfl rfl
theorem x148_5 : Rn S 148 5 [.ref q, v1, v2, v3] st I J Q = Rn S 148 6 [.ref q, v1, v2, v3] (.ref q :: st) I J Q := rL f148_5 rfl rfl
theorem x148_6_65 : Rn (zG xl) 148 6 [v0, v1, v2, v3] (.ref 65 :: st) I J Q = Rn (zG xl) 148 9 [v0, v1, v2, v3] (.int (I 65 7) :: st) I J Q := (rGf f148_6 rfl).trans (tr_and rfl)
theorem x148_9 : Rn S 148 9 [v0, v1, v2, v3] (.int b :: .int a :: st) I J Q = if a < b then Rn S 148 12 [v0, v1, v2, v3] st I J Q else Rn S 148 48 [v0, v1, v2, v3] st I J Q := rCge f148_9 rfl rfl
theorem x148_12 : Rn S 148 12 [v0, v1, .int a, v3] st I J Q = Rn S 148 13 [v0, v1, .int a, v3] (.int a :: st) I J Q := rL f148_12 rfl rfl
theorem x148_13 : Rn S 148 13 [.ref q, v1, v2, v3] st I J Q = Rn S 148 14 [.ref q, v1, v2, v3] (.ref q :: st) I J Q := rL f148_13 rfl rfl
theorem x148_14_65 : Rn (zG xl) 148 14 [v0, v1, v2, v3] (.ref 65 :: st) I J Q = Rn (zG xl) 148 17 [v0, v1, v2, v3] (.ref 84 :: st) I J Q := (rGf f148_14 rfl).trans (tr_and rfl)
theorem x148_17 : Rn S 148 17 [v0, v1, v2, .int a] st I J Q = Rn S 148 18 [v0, v1, v2, .int a] (.int a :: st) I J Q := rL f148_17 rfl rfl
theorem x148_18 : Rn S 148 18 [v0, v1, v2, v3] (.int a :: .ref q :: st) I J Q = (zai S q a ∧ Rn S 148 19 [v0, v1, v2, v3] (.int (I q a.toNatClampNeg) :: st) I J Q) := rIal f148_18
theorem x148_19 : Rn S 148 19 [v0, v1, v2, v3] st I J Q = Rn S 148 20 [v0, v1, v2, v3] (.int (-1) :: st) I J Q := rS f148_19 rfl
theorem x148_20 : Rn S 148 20 [v0, v1, v2, v3] (.int b :: .int a :: st) I J Q = if a = b then Rn S 148 39 [v0, v1, v2, v3] st I J Q else Rn S 148 23 [v0, v1, v2, v3] st I J Q := rCeq f148_20 rfl rfl
theorem x148_23 : Rn S 148 23 [.ref q, v1, v2, v3] st I J Q = Rn S 148 24 [.ref q, v1, v2, v3] (.ref q :: st) I J Q := rL f148_23 rfl rfl
theorem x148_24_65 : Rn (zG xl) 148 24 [v0, v1, v2, v3] (.ref 65 :: st) I J Q = Rn (zG xl) 148 27 [v0, v1, v2, v3] (.ref 85 :: st) I J Q := (rGf f148_24 rfl).trans (tr_and rfl)
theorem x148_27 : Rn S 148 27 [v0, v1, v2, .int a] st I J Q = Rn S 148 28 [v0, v1, v2, .int a] (.int a :: st) I J Q := rL f148_27 rfl rfl
theorem x148_28 : Rn S 148 28 [v0, v1, v2, v3] (.int a :: .ref q :: st) I J Q = (zai S q a ∧ Rn S 148 29 [v0, v1, v2, v3] (.int (I q a.toNatClampNeg) :: st) I J Q) := rIal f148_28
theorem x148_29 : Rn S 148 29 [v0, .int a, v2, v3] st I J Q = Rn S 148 30 [v0, .int a, v2, v3] (.int a :: st) I J Q := rL f148_29 rfl rfl
theorem x148_30 : Rn S 148 30 [v0, v1, v2, v3] (.int b :: .int a :: st) I J Q = if b < a then Rn S 148 39 [v0, v1, v2, v3] st I J Q else Rn S 148 33 [v0, v1, v2, v3] st I J Q := rCgt f148_30 rfl rfl
theorem x148_33 : Rn S 148 33 [v0, v1, v2, v3] st I J Q = Rn S 148 34 [v0, v1, v2, v3] (.int 1 :: st) I J Q := rS f148_33 rfl
theorem x148_34 : Rn S 148 34 [v0, v1, v2, .int a] st I J Q = Rn S 148 35 [v0, v1, v2, .int a] (.int a :: st) I J Q := rL f148_34 rfl rfl
theorem x148_35 : Rn S 148 35 [v0, v1, v2, v3] (.int b :: .int a :: st) I J Q = Rn S 148 36 [v0, v1, v2, v3] (.int (a <<< (b &&& 31)) :: st) I J Q := rS f148_35 rfl
theorem x148_36 : Rn S 148 36 [v0, v1, v2, v3] st I J Q = Rn S 148 40 [v0, v1, v2, v3] st I J Q := rB f148_36 rfl rfl rfl
theorem x148_39 : Rn S 148 39 [v0, v1, v2, v3] st I J Q = Rn S 148 40 [v0, v1, v2, v3] (.int 0 :: st) I J Q := rS f148_39 rfl
theorem x148_40 : Rn S 148 40 [v0, v1, v2, v3] (.int b :: .int a :: st) I J Q = Rn S 148 41 [v0, v1, v2, v3] (.int (a ||| b) :: st) I J Q := rS f148_40 rfl
theorem x148_41 : Rn S 148 41 [v0, v1, v2, v3] (.int a :: st) I J Q = Rn S 148 42 [v0, zkl v1, .int a, v3] st I J Q := rL f148_41 rfl rfl
theorem x148_42 : Rn S 148 42 [v0, v1, v2, .int a] st I J Q = Rn S 148 45 [v0, v1, zkl v2, .int (a + 1)] st I J Q := rL f148_42 rfl rfl
theorem x148_45 : Rn S 148 45 [v0, v1, v2, v3] st I J Q = Rn S 148 4 [v0, v1, v2, v3] st I J Q := rB f148_45 rfl rfl rfl
theorem x148_48 : Rn S 148 48 [v0, v1, .int a, v3] st I J Q = Rn S 148 49 [v0, v1, .int a, v3] (.int a :: st) I J Q := rL f148_48 rfl rfl
theorem x148_49 : Rn S 148 49 [v0, v1, v2, v3] [.int a] I J Q = Q (some (.int a)) I J := rR f148_49 rfl rfl rfl rfl rfl
/-! X6.marked: 149 -/
theorem B149 : zB 149 = cX6_marked := rfl
theorem f149_0 : zft 149 0 = some (.aload_n 0, 1) := fet B149 (by decide +kernel) (Or.inr rfl)
theorem f149_1 : zft 149 1 = some (.invokevirtual 205, 3) := fet B149 (by decide +kernel) (Or.inr rfl)
theorem f149_4 : zft 149 4 = some (.iload_n 1, 1) := fet B149 (by decide +kernel) (Or.inr rfl)
theorem f149_5 : zft 149 5 = some (.invokestatic 176, 3) := fet B149 (by decide +kernel) (Or.inr rfl)
theorem f149_8 : zft 149 8 = some (.ifCond .eq 14, 3) := fet B149 (by decide +kernel) (Or.inr rfl)
theorem f149_11 : zft 149 11 = some (.aload_n 0, 1) := fet B149 (by decide +kernel) (Or.inr rfl)
theorem f149_12 : zft 149 12 = some (.iload_n 1, 1) := fet B149 (by decide +kernel) (Or.inr rfl)
theorem f149_13 : zft 149 13 = some (.invokevirtual 217, 3) := fet B149 (by decide +kernel) (Or.inr rfl)
theorem f149_16 : zft 149 16 = some (.invokestatic 220, 3) := fet B149 (by decide +kernel) (Or.inr rfl)
theorem f149_19 : zft 149 19 = some (.goto 5, 3) := fet B149 (by decide +kernel) (Or.inr rfl)
theorem f149_22 : zft 149 22 = some (.bipush (-2), 2) := fet B149 (by decide +kernel) (Or.inr rfl)
theorem f149_24 : zft 149 24 = some (.ireturn, 1) := fet B149 (by decide +kernel) (Or.inr rfl)
theorem x149_0 : Rn S 149 0 [.ref q, v1] st I J Q = Rn S 149 1 [.ref q, v1] (.ref q :: st) I J Q := rL f149_0 rfl rfl
theorem x149_1 : Rn S 149 1 [v0, v1] (.ref q :: st) I J Q = ((zcls S q = 6 ∧ zcs st ≤ 8) ∧ Rn S 141 0 [.ref q] [] I J (fun v I' J' => Rn S 149 4 [v0, v1] (v.toList ++ st) I' J' Q)) := rCV (As := []) f149_1 rfl rfl rfl rfl (Nat.le_of_ble_eq_true rfl)
theorem x149_4 : Rn S 149 4 [v0, .int a] st I J Q = Rn S 149 5 [v0, .int a] (.int a :: st) I J Q := rL f149_4 rfl rfl
theorem x149_5 : Rn S 149 5 [v0, v1] (.int a0 :: st) I J Q = (zcs st ≤ 8 ∧ Rn S 128 0 [.int a0] [] I J (fun v I' J' => Rn S 149 8 [v0, v1] (v.toList ++ st) I' J' Q)) := rCS (As := [.int a0]) f149_5 rfl rfl rfl rfl (Nat.le_of_ble_eq_true rfl)
theorem x149_8 : Rn S 149 8 [v0, v1] (.int a :: st) I J Q = if a = 0 then Rn S 149 22 [v0, v1] st I J Q else Rn S 149 11 [v0, v1] st I J Q := rIeq f149_8 rfl rfl
theorem x149_11 : Rn S 149 11 [.ref q, v1] st I J Q = Rn S 149 12 [.ref q, v1] (.ref q :: st) I J Q := rL f149_11 rfl rfl
theorem x149_12 : Rn S 149 12 [v0, .int a] st I J Q = Rn S 149 13 [v0, .int a] (.int a :: st) I J Q := rL f149_12 rfl rfl
theorem x149_13 : Rn S 149 13 [v0, v1] (.int a0 :: .ref q :: st) I J Q = ((zcls S q = 6 ∧ zcs st ≤ 8) ∧ Rn S 148 0 [.ref q, .int a0, .null, .null] [] I J (fun v I' J' => Rn S 149 16 [v0, v1] (v.toList ++ st) I' J' Q)) := rCV (As := [.int a0]) f149_13 rfl rfl rfl rfl (Nat.le_of_ble_eq_true rfl)
theorem x149_16 : Rn S 149 16 [v0, v1] (.int a0 :: st) I J Q = (zcs st ≤ 8 ∧ Rn S 100 0 [.int a0, .null, .null] [] I J (fun v I' J' => Rn S 149 19 [v0, v1] (v.toList ++ st) I' J' Q)) := rCS (As := [.int a0]) f149_16 rfl rfl rfl rfl (Nat.le_of_ble_eq_true rfl)
theorem x149_19 : Rn S 149 19 [v0, v1] st I J Q = Rn S 149 24 [v0, v1] st I J Q := rB f149_19 rfl rfl rfl
theorem x149_22 : Rn S 149 22 [v0, v1] st I J Q = Rn S 149 24 [v0, v1] (.int (-2) :: st) I J Q := rS f149_22 rfl
theorem x149_24 : Rn S 149 24 [v0, v1] [.int a] I J Q = Q (some (.int a)) I J := rR f149_24 rfl rfl rfl rfl rfl
/-! X6.harmNow: 150 -/
theorem B150 : zB 150 = cX6_harmNow := rfl
theorem f150_0 : zft 150 0 = some (.iconst 0, 1) := fet B150 (by decide +kernel) (Or.inr rfl)
theorem f150_1 : zft 150 1 = some (.istore_n 1, 1) := fet B150 (by decide +kernel) (Or.inr rfl)
theorem f150_2 : zft 150 2 = some (.iconst 0, 1) := fet B150 (by decide +kernel) (Or.inr rfl)
theorem f150_3 : zft 150 3 = some (.istore_n 2, 1) := fet B150 (by decide +kernel) (Or.inr rfl)
theorem f150_4 : zft 150 4 = some (.iload_n 2, 1) := fet B150 (by decide +kernel) (Or.inr rfl)
theorem f150_5 : zft 150 5 = some (.aload_n 0, 1) := fet B150 (by decide +kernel) (Or.inr rfl)
theorem f150_6 : zft 150 6 = some (.getfield 122, 3) := fet B150 (by decide +kernel) (Or.inr rfl)
theorem f150_9 : zft 150 9 = some (.if_icmp .ge 36, 3) := fet B150 (by decide +kernel) (Or.inr rfl)
theorem f150_12 : zft 150 12 = some (.iload_n 1, 1) := fet B150 (by decide +kernel) (Or.inr rfl)
theorem f150_13 : zft 150 13 = some (.aload_n 0, 1) := fet B150 (by decide +kernel) (Or.inr rfl)
theorem f150_14 : zft 150 14 = some (.getfield 65, 3) := fet B150 (by decide +kernel) (Or.inr rfl)
theorem f150_17 : zft 150 17 = some (.iload_n 2, 1) := fet B150 (by decide +kernel) (Or.inr rfl)
theorem f150_18 : zft 150 18 = some (.iaload, 1) := fet B150 (by decide +kernel) (Or.inr rfl)
theorem f150_19 : zft 150 19 = some (.iconst (-1), 1) := fet B150 (by decide +kernel) (Or.inr rfl)
theorem f150_20 : zft 150 20 = some (.if_icmp .ne 16, 3) := fet B150 (by decide +kernel) (Or.inr rfl)
theorem f150_23 : zft 150 23 = some (.aload_n 0, 1) := fet B150 (by decide +kernel) (Or.inr rfl)
theorem f150_24 : zft 150 24 = some (.getfield 28, 3) := fet B150 (by decide +kernel) (Or.inr rfl)
theorem f150_27 : zft 150 27 = some (.iconst 2, 1) := fet B150 (by decide +kernel) (Or.inr rfl)
theorem f150_28 : zft 150 28 = some (.iload_n 2, 1) := fet B150 (by decide +kernel) (Or.inr rfl)
theorem f150_29 : zft 150 29 = some (.imul, 1) := fet B150 (by decide +kernel) (Or.inr rfl)
theorem f150_30 : zft 150 30 = some (.iconst 1, 1) := fet B150 (by decide +kernel) (Or.inr rfl)
theorem f150_31 : zft 150 31 = some (.iadd, 1) := fet B150 (by decide +kernel) (Or.inr rfl)
theorem f150_32 : zft 150 32 = some (.iaload, 1) := fet B150 (by decide +kernel) (Or.inr rfl)
theorem f150_33 : zft 150 33 = some (.goto 4, 3) := fet B150 (by decide +kernel) (Or.inr rfl)
theorem f150_36 : zft 150 36 = some (.iconst 0, 1) := fet B150 (by decide +kernel) (Or.inr rfl)
theorem f150_37 : zft 150 37 = some (.iadd, 1) := fet B150 (by decide +kernel) (Or.inr rfl)
theorem f150_38 : zft 150 38 = some (.istore_n 1, 1) := fet B150 (by decide +kernel) (Or.inr rfl)
theorem f150_39 : zft 150 39 = some (.iinc 2 1, 3) := fet B150 (by decide +kernel) (Or.inr rfl)
theorem f150_42 : zft 150 42 = some (.goto (-38), 3) := fet B150 (by decide +kernel) (Or.inr rfl)
theorem f150_45 : zft 150 45 = some (.iload_n 1, 1) := fet B150 (by decide +kernel) (Or.inr rfl)
theorem f150_46 : zft 150 46 = some (.ireturn, 1) := fet B150 (by decide +kernel) (Or.inr rfl)
theorem x150_0 : Rn S 150 0 [v0, v1, v2] st I J Q = Rn S 150 1 [v0, v1, v2] (.int 0 :: st) I J Q := rS f150_0 rfl
theorem x150_1 : Rn S 150 1 [v0, v1, v2] (.int a :: st) I J Q = Rn S 150 2 [zkl v0, .int a, v2] st I J Q := rL f150_1 rfl rfl
theorem x150_2 : Rn S 150 2 [v0, v1, v2] st I J Q = Rn S 150 3 [v0, v1, v2] (.int 0 :: st) I J Q := rS f150_2 rfl
theorem x150_3 : Rn S 150 3 [v0, v1, v2] (.int a :: st) I J Q = Rn S 150 4 [v0, zkl v1, .int a] st I J Q := rL f150_3 rfl rfl
theorem h150_4 : Rn S 150 4 [v0, v1, .int a] st I J Q = Rn S 150 5 [v0, v1, .int a] (.int a :: st) I J Q := rL f150_4 rfl rfl
theorem x150_5 : Rn S 150 5 [.ref q, v1, v2] st I J Q = Rn S 150 6 [.ref q, v1, v2] (.ref q :: st) I J Q := rL f150_5 rfl rfl
theorem x150_6_65 : Rn (zG xl) 150 6 [v0, v1, v2] (.ref 65 :: st) I J Q = Rn (zG xl) 150 9 [v0, v1, v2] (.int (I 65 7) :: st) I J Q := (rGf f150_6 rfl).trans (tr_and rfl)
theorem x150_9 : Rn S 150 9 [v0, v1, v2] (.int b :: .int a :: st) I J Q = if a < b then Rn S 150 12 [v0, v1, v2] st I J Q else Rn S 150 45 [v0, v1, v2] st I J Q := rCge f150_9 rfl rfl
theorem x150_12 : Rn S 150 12 [v0, .int a, v2] st I J Q = Rn S 150 13 [v0, .int a, v2] (.int a :: st) I J Q := rL f150_12 rfl rfl
theorem x150_13 : Rn S 150 13 [.ref q, v1, v2] st I J Q = Rn S 150 14 [.ref q, v1, v2] (.ref q :: st) I J Q := rL f150_13 rfl rfl
theorem x150_14_65 : Rn (zG xl) 150 14 [v0, v1, v2] (.ref 65 :: st) I J Q = Rn (zG xl) 150 17 [v0, v1, v2] (.ref 84 :: st) I J Q := (rGf f150_14 rfl).trans (tr_and rfl)
theorem x150_17 : Rn S 150 17 [v0, v1, .int a] st I J Q = Rn S 150 18 [v0, v1, .int a] (.int a :: st) I J Q := rL f150_17 rfl rfl
theorem x150_18 : Rn S 150 18 [v0, v1, v2] (.int a :: .ref q :: st) I J Q = (zai S q a ∧ Rn S 150 19 [v0, v1, v2] (.int (I q a.toNatClampNeg) :: st) I J Q) := rIal f150_18
theorem x150_19 : Rn S 150 19 [v0, v1, v2] st I J Q = Rn S 150 20 [v0, v1, v2] (.int (-1) :: st) I J Q := rS f150_19 rfl
theorem x150_20 : Rn S 150 20 [v0, v1, v2] (.int b :: .int a :: st) I J Q = if a = b then Rn S 150 23 [v0, v1, v2] st I J Q else Rn S 150 36 [v0, v1, v2] st I J Q := rCne f150_20 rfl rfl
theorem x150_23 : Rn S 150 23 [.ref q, v1, v2] st I J Q = Rn S 150 24 [.ref q, v1, v2] (.ref q :: st) I J Q := rL f150_23 rfl rfl
theorem x150_24_65 : Rn (zG xl) 150 24 [v0, v1, v2] (.ref 65 :: st) I J Q = Rn (zG xl) 150 27 [v0, v1, v2] (.ref 72 :: st) I J Q := (rGf f150_24 rfl).trans (tr_and rfl)
theorem x150_27 : Rn S 150 27 [v0, v1, v2] st I J Q = Rn S 150 28 [v0, v1, v2] (.int 2 :: st) I J Q := rS f150_27 rfl
theorem x150_28 : Rn S 150 28 [v0, v1, .int a] st I J Q = Rn S 150 29 [v0, v1, .int a] (.int a :: st) I J Q := rL f150_28 rfl rfl
theorem x150_29 : Rn S 150 29 [v0, v1, v2] (.int b :: .int a :: st) I J Q = Rn S 150 30 [v0, v1, v2] (.int (a * b) :: st) I J Q := rS f150_29 rfl
theorem x150_30 : Rn S 150 30 [v0, v1, v2] st I J Q = Rn S 150 31 [v0, v1, v2] (.int 1 :: st) I J Q := rS f150_30 rfl
theorem x150_31 : Rn S 150 31 [v0, v1, v2] (.int b :: .int a :: st) I J Q = Rn S 150 32 [v0, v1, v2] (.int (a + b) :: st) I J Q := rS f150_31 rfl
theorem x150_32 : Rn S 150 32 [v0, v1, v2] (.int a :: .ref q :: st) I J Q = (zai S q a ∧ Rn S 150 33 [v0, v1, v2] (.int (I q a.toNatClampNeg) :: st) I J Q) := rIal f150_32
theorem x150_33 : Rn S 150 33 [v0, v1, v2] st I J Q = Rn S 150 37 [v0, v1, v2] st I J Q := rB f150_33 rfl rfl rfl
theorem x150_36 : Rn S 150 36 [v0, v1, v2] st I J Q = Rn S 150 37 [v0, v1, v2] (.int 0 :: st) I J Q := rS f150_36 rfl
theorem x150_37 : Rn S 150 37 [v0, v1, v2] (.int b :: .int a :: st) I J Q = Rn S 150 38 [v0, v1, v2] (.int (a + b) :: st) I J Q := rS f150_37 rfl
theorem x150_38 : Rn S 150 38 [v0, v1, v2] (.int a :: st) I J Q = Rn S 150 39 [zkl v0, .int a, v2] st I J Q := rL f150_38 rfl rfl
theorem x150_39 : Rn S 150 39 [v0, v1, .int a] st I J Q = Rn S 150 42 [v0, zkl v1, .int (a + 1)] st I J Q := rL f150_39 rfl rfl
theorem x150_42 : Rn S 150 42 [v0, v1, v2] st I J Q = Rn S 150 4 [v0, v1, v2] st I J Q := rB f150_42 rfl rfl rfl
theorem x150_45 : Rn S 150 45 [v0, .int a, v2] st I J Q = Rn S 150 46 [v0, .int a, v2] (.int a :: st) I J Q := rL f150_45 rfl rfl
theorem x150_46 : Rn S 150 46 [v0, v1, v2] [.int a] I J Q = Q (some (.int a)) I J := rR f150_46 rfl rfl rfl rfl rfl
/-! X6.harm: 151 -/
theorem B151 : zB 151 = cX6_harm := rfl
theorem f151_0 : zft 151 0 = some (.aload_n 0, 1) := fet B151 (by decide +kernel) (Or.inr rfl)
theorem f151_1 : zft 151 1 = some (.invokevirtual 205, 3) := fet B151 (by decide +kernel) (Or.inr rfl)
theorem f151_4 : zft 151 4 = some (.aload_n 0, 1) := fet B151 (by decide +kernel) (Or.inr rfl)
theorem f151_5 : zft 151 5 = some (.invokevirtual 223, 3) := fet B151 (by decide +kernel) (Or.inr rfl)
theorem f151_8 : zft 151 8 = some (.ireturn, 1) := fet B151 (by decide +kernel) (Or.inr rfl)
theorem x151_0 : Rn S 151 0 [.ref q] st I J Q = Rn S 151 1 [.ref q] (.ref q :: st) I J Q := rL f151_0 rfl rfl
theorem x151_1 : Rn S 151 1 [v0] (.ref q :: st) I J Q = ((zcls S q = 6 ∧ zcs st ≤ 8) ∧ Rn S 141 0 [.ref q] [] I J (fun v I' J' => Rn S 151 4 [v0] (v.toList ++ st) I' J' Q)) := rCV (As := []) f151_1 rfl rfl rfl rfl (Nat.le_of_ble_eq_true rfl)
theorem x151_4 : Rn S 151 4 [.ref q] st I J Q = Rn S 151 5 [.ref q] (.ref q :: st) I J Q := rL f151_4 rfl rfl
theorem x151_5 : Rn S 151 5 [v0] (.ref q :: st) I J Q = ((zcls S q = 6 ∧ zcs st ≤ 8) ∧ Rn S 150 0 [.ref q, .null, .null] [] I J (fun v I' J' => Rn S 151 8 [v0] (v.toList ++ st) I' J' Q)) := rCV (As := []) f151_5 rfl rfl rfl rfl (Nat.le_of_ble_eq_true rfl)
theorem x151_8 : Rn S 151 8 [v0] [.int a] I J Q = Q (some (.int a)) I J := rR f151_8 rfl rfl rfl rfl rfl
/-! X6.worstNow: 152 -/
theorem B152 : zB 152 = cX6_worstNow := rfl
theorem f152_0 : zft 152 0 = some (.iconst (-1), 1) := fet B152 (by decide +kernel) (Or.inr rfl)
theorem f152_1 : zft 152 1 = some (.istore_n 1, 1) := fet B152 (by decide +kernel) (Or.inr rfl)
theorem f152_2 : zft 152 2 = some (.iconst 0, 1) := fet B152 (by decide +kernel) (Or.inr rfl)
theorem f152_3 : zft 152 3 = some (.istore_n 2, 1) := fet B152 (by decide +kernel) (Or.inr rfl)
theorem f152_4 : zft 152 4 = some (.iload_n 2, 1) := fet B152 (by decide +kernel) (Or.inr rfl)
theorem f152_5 : zft 152 5 = some (.aload_n 0, 1) := fet B152 (by decide +kernel) (Or.inr rfl)
theorem f152_6 : zft 152 6 = some (.getfield 122, 3) := fet B152 (by decide +kernel) (Or.inr rfl)
theorem f152_9 : zft 152 9 = some (.if_icmp .ge 53, 3) := fet B152 (by decide +kernel) (Or.inr rfl)
theorem f152_12 : zft 152 12 = some (.aload_n 0, 1) := fet B152 (by decide +kernel) (Or.inr rfl)
theorem f152_13 : zft 152 13 = some (.getfield 65, 3) := fet B152 (by decide +kernel) (Or.inr rfl)
theorem f152_16 : zft 152 16 = some (.iload_n 2, 1) := fet B152 (by decide +kernel) (Or.inr rfl)
theorem f152_17 : zft 152 17 = some (.iaload, 1) := fet B152 (by decide +kernel) (Or.inr rfl)
theorem f152_18 : zft 152 18 = some (.iconst (-1), 1) := fet B152 (by decide +kernel) (Or.inr rfl)
theorem f152_19 : zft 152 19 = some (.if_icmp .ne 35, 3) := fet B152 (by decide +kernel) (Or.inr rfl)
theorem f152_22 : zft 152 22 = some (.iload_n 1, 1) := fet B152 (by decide +kernel) (Or.inr rfl)
theorem f152_23 : zft 152 23 = some (.iconst (-1), 1) := fet B152 (by decide +kernel) (Or.inr rfl)
theorem f152_24 : zft 152 24 = some (.if_icmp .eq 26, 3) := fet B152 (by decide +kernel) (Or.inr rfl)
theorem f152_27 : zft 152 27 = some (.aload_n 0, 1) := fet B152 (by decide +kernel) (Or.inr rfl)
theorem f152_28 : zft 152 28 = some (.getfield 28, 3) := fet B152 (by decide +kernel) (Or.inr rfl)
theorem f152_31 : zft 152 31 = some (.iconst 2, 1) := fet B152 (by decide +kernel) (Or.inr rfl)
theorem f152_32 : zft 152 32 = some (.iload_n 2, 1) := fet B152 (by decide +kernel) (Or.inr rfl)
theorem f152_33 : zft 152 33 = some (.imul, 1) := fet B152 (by decide +kernel) (Or.inr rfl)
theorem f152_34 : zft 152 34 = some (.iconst 1, 1) := fet B152 (by decide +kernel) (Or.inr rfl)
theorem f152_35 : zft 152 35 = some (.iadd, 1) := fet B152 (by decide +kernel) (Or.inr rfl)
theorem f152_36 : zft 152 36 = some (.iaload, 1) := fet B152 (by decide +kernel) (Or.inr rfl)
theorem f152_37 : zft 152 37 = some (.aload_n 0, 1) := fet B152 (by decide +kernel) (Or.inr rfl)
theorem f152_38 : zft 152 38 = some (.getfield 28, 3) := fet B152 (by decide +kernel) (Or.inr rfl)
theorem f152_41 : zft 152 41 = some (.iconst 2, 1) := fet B152 (by decide +kernel) (Or.inr rfl)
theorem f152_42 : zft 152 42 = some (.iload_n 1, 1) := fet B152 (by decide +kernel) (Or.inr rfl)
theorem f152_43 : zft 152 43 = some (.imul, 1) := fet B152 (by decide +kernel) (Or.inr rfl)
theorem f152_44 : zft 152 44 = some (.iconst 1, 1) := fet B152 (by decide +kernel) (Or.inr rfl)
theorem f152_45 : zft 152 45 = some (.iadd, 1) := fet B152 (by decide +kernel) (Or.inr rfl)
theorem f152_46 : zft 152 46 = some (.iaload, 1) := fet B152 (by decide +kernel) (Or.inr rfl)
theorem f152_47 : zft 152 47 = some (.if_icmp .le 7, 3) := fet B152 (by decide +kernel) (Or.inr rfl)
theorem f152_50 : zft 152 50 = some (.iload_n 2, 1) := fet B152 (by decide +kernel) (Or.inr rfl)
theorem f152_51 : zft 152 51 = some (.goto 4, 3) := fet B152 (by decide +kernel) (Or.inr rfl)
theorem f152_54 : zft 152 54 = some (.iload_n 1, 1) := fet B152 (by decide +kernel) (Or.inr rfl)
theorem f152_55 : zft 152 55 = some (.istore_n 1, 1) := fet B152 (by decide +kernel) (Or.inr rfl)
theorem f152_56 : zft 152 56 = some (.iinc 2 1, 3) := fet B152 (by decide +kernel) (Or.inr rfl)
theorem f152_59 : zft 152 59 = some (.goto (-55), 3) := fet B152 (by decide +kernel) (Or.inr rfl)
theorem f152_62 : zft 152 62 = some (.iload_n 1, 1) := fet B152 (by decide +kernel) (Or.inr rfl)
theorem f152_63 : zft 152 63 = some (.ireturn, 1) := fet B152 (by decide +kernel) (Or.inr rfl)
theorem x152_0 : Rn S 152 0 [v0, v1, v2] st I J Q = Rn S 152 1 [v0, v1, v2] (.int (-1) :: st) I J Q := rS f152_0 rfl
theorem x152_1 : Rn S 152 1 [v0, v1, v2] (.int a :: st) I J Q = Rn S 152 2 [zkl v0, .int a, v2] st I J Q := rL f152_1 rfl rfl
theorem x152_2 : Rn S 152 2 [v0, v1, v2] st I J Q = Rn S 152 3 [v0, v1, v2] (.int 0 :: st) I J Q := rS f152_2 rfl
theorem x152_3 : Rn S 152 3 [v0, v1, v2] (.int a :: st) I J Q = Rn S 152 4 [v0, zkl v1, .int a] st I J Q := rL f152_3 rfl rfl
theorem h152_4 : Rn S 152 4 [v0, v1, .int a] st I J Q = Rn S 152 5 [v0, v1, .int a] (.int a :: st) I J Q := rL f152_4 rfl rfl
theorem x152_5 : Rn S 152 5 [.ref q, v1, v2] st I J Q = Rn S 152 6 [.ref q, v1, v2] (.ref q :: st) I J Q := rL f152_5 rfl rfl
theorem x152_6_65 : Rn (zG xl) 152 6 [v0, v1, v2] (.ref 65 :: st) I J Q = Rn (zG xl) 152 9 [v0, v1, v2] (.int (I 65 7) :: st) I J Q := (rGf f152_6 rfl).trans (tr_and rfl)
theorem x152_9 : Rn S 152 9 [v0, v1, v2] (.int b :: .int a :: st) I J Q = if a < b then Rn S 152 12 [v0, v1, v2] st I J Q else Rn S 152 62 [v0, v1, v2] st I J Q := rCge f152_9 rfl rfl
theorem x152_12 : Rn S 152 12 [.ref q, v1, v2] st I J Q = Rn S 152 13 [.ref q, v1, v2] (.ref q :: st) I J Q := rL f152_12 rfl rfl
theorem x152_13_65 : Rn (zG xl) 152 13 [v0, v1, v2] (.ref 65 :: st) I J Q = Rn (zG xl) 152 16 [v0, v1, v2] (.ref 84 :: st) I J Q := (rGf f152_13 rfl).trans (tr_and rfl)
theorem x152_16 : Rn S 152 16 [v0, v1, .int a] st I J Q = Rn S 152 17 [v0, v1, .int a] (.int a :: st) I J Q := rL f152_16 rfl rfl
theorem x152_17 : Rn S 152 17 [v0, v1, v2] (.int a :: .ref q :: st) I J Q = (zai S q a ∧ Rn S 152 18 [v0, v1, v2] (.int (I q a.toNatClampNeg) :: st) I J Q) := rIal f152_17
theorem x152_18 : Rn S 152 18 [v0, v1, v2] st I J Q = Rn S 152 19 [v0, v1, v2] (.int (-1) :: st) I J Q := rS f152_18 rfl
theorem x152_19 : Rn S 152 19 [v0, v1, v2] (.int b :: .int a :: st) I J Q = if a = b then Rn S 152 22 [v0, v1, v2] st I J Q else Rn S 152 54 [v0, v1, v2] st I J Q := rCne f152_19 rfl rfl
theorem x152_22 : Rn S 152 22 [v0, .int a, v2] st I J Q = Rn S 152 23 [v0, .int a, v2] (.int a :: st) I J Q := rL f152_22 rfl rfl
theorem x152_23 : Rn S 152 23 [v0, v1, v2] st I J Q = Rn S 152 24 [v0, v1, v2] (.int (-1) :: st) I J Q := rS f152_23 rfl
theorem x152_24 : Rn S 152 24 [v0, v1, v2] (.int b :: .int a :: st) I J Q = if a = b then Rn S 152 50 [v0, v1, v2] st I J Q else Rn S 152 27 [v0, v1, v2] st I J Q := rCeq f152_24 rfl rfl
theorem x152_27 : Rn S 152 27 [.ref q, v1, v2] st I J Q = Rn S 152 28 [.ref q, v1, v2] (.ref q :: st) I J Q := rL f152_27 rfl rfl
theorem x152_28_65 : Rn (zG xl) 152 28 [v0, v1, v2] (.ref 65 :: st) I J Q = Rn (zG xl) 152 31 [v0, v1, v2] (.ref 72 :: st) I J Q := (rGf f152_28 rfl).trans (tr_and rfl)
theorem x152_31 : Rn S 152 31 [v0, v1, v2] st I J Q = Rn S 152 32 [v0, v1, v2] (.int 2 :: st) I J Q := rS f152_31 rfl
theorem x152_32 : Rn S 152 32 [v0, v1, .int a] st I J Q = Rn S 152 33 [v0, v1, .int a] (.int a :: st) I J Q := rL f152_32 rfl rfl
theorem x152_33 : Rn S 152 33 [v0, v1, v2] (.int b :: .int a :: st) I J Q = Rn S 152 34 [v0, v1, v2] (.int (a * b) :: st) I J Q := rS f152_33 rfl
theorem x152_34 : Rn S 152 34 [v0, v1, v2] st I J Q = Rn S 152 35 [v0, v1, v2] (.int 1 :: st) I J Q := rS f152_34 rfl
theorem x152_35 : Rn S 152 35 [v0, v1, v2] (.int b :: .int a :: st) I J Q = Rn S 152 36 [v0, v1, v2] (.int (a + b) :: st) I J Q := rS f152_35 rfl
theorem x152_36 : Rn S 152 36 [v0, v1, v2] (.int a :: .ref q :: st) I J Q = (zai S q a ∧ Rn S 152 37 [v0, v1, v2] (.int (I q a.toNatClampNeg) :: st) I J Q) := rIal f152_36
theorem x152_37 : Rn S 152 37 [.ref q, v1, v2] st I J Q = Rn S 152 38 [.ref q, v1, v2] (.ref q :: st) I J Q := rL f152_37 rfl rfl
theorem x152_38_65 : Rn (zG xl) 152 38 [v0, v1, v2] (.ref 65 :: st) I J Q = Rn (zG xl) 152 41 [v0, v1, v2] (.ref 72 :: st) I J Q := (rGf f152_38 rfl).trans (tr_and rfl)
theorem x152_41 : Rn S 152 41 [v0, v1, v2] st I J Q = Rn S 152 42 [v0, v1, v2] (.int 2 :: st) I J Q := rS f152_41 rfl
theorem x152_42 : Rn S 152 42 [v0, .int a, v2] st I J Q = Rn S 152 43 [v0, .int a, v2] (.int a :: st) I J Q := rL f152_42 rfl rfl
theorem x152_43 : Rn S 152 43 [v0, v1, v2] (.int b :: .int a :: st) I J Q = Rn S 152 44 [v0, v1, v2] (.int (a * b) :: st) I J Q := rS f152_43 rfl
theorem x152_44 : Rn S 152 44 [v0, v1, v2] st I J Q = Rn S 152 45 [v0, v1, v2] (.int 1 :: st) I J Q := rS f152_44 rfl
theorem x152_45 : Rn S 152 45 [v0, v1, v2] (.int b :: .int a :: st) I J Q = Rn S 152 46 [v0, v1, v2] (.int (a + b) :: st) I J Q := rS f152_45 rfl
theorem x152_46 : Rn S 152 46 [v0, v1, v2] (.int a :: .ref q :: st) I J Q = (zai S q a ∧ Rn S 152 47 [v0, v1, v2] (.int (I q a.toNatClampNeg) :: st) I J Q) := rIal f152_46
theorem x152_47 : Rn S 152 47 [v0, v1, v2] (.int b :: .int a :: st) I J Q = if b < a then Rn S 152 50 [v0, v1, v2] st I J Q else Rn S 152 54 [v0, v1, v2] st I J Q := rCle f152_47 rfl rfl
theorem x152_50 : Rn S 152 50 [v0, v1, .int a] st I J Q = Rn S 152 51 [v0, v1, .int a] (.int a :: st) I J Q := rL f152_50 rfl rfl
theorem x152_51 : Rn S 152 51 [v0, v1, v2] st I J Q = Rn S 152 55 [v0, v1, v2] st I J Q := rB f152_51 rfl rfl rfl
theorem x152_54 : Rn S 152 54 [v0, .int a, v2] st I J Q = Rn S 152 55 [v0, .int a, v2] (.int a :: st) I J Q := rL f152_54 rfl rfl
theorem x152_55 : Rn S 152 55 [v0, v1, v2] (.int a :: st) I J Q = Rn S 152 56 [zkl v0, .int a, v2] st I J Q := rL f152_55 rfl rfl
theorem x152_56 : Rn S 152 56 [v0, v1, .int a] st I J Q = Rn S 152 59 [v0, zkl v1, .int (a + 1)] st I J Q := rL f152_56 rfl rfl
theorem x152_59 : Rn S 152 59 [v0, v1, v2] st I J Q = Rn S 152 4 [v0, v1, v2] st I J Q := rB f152_59 rfl rfl rfl
theorem x152_62 : Rn S 152 62 [v0, .int a, v2] st I J Q = Rn S 152 63 [v0, .int a, v2] (.int a :: st) I J Q := rL f152_62 rfl rfl
theorem x152_63 : Rn S 152 63 [v0, v1, v2] [.int a] I J Q = Q (some (.int a)) I J := rR f152_63 rfl rfl rfl rfl rfl
/-! X6.worst: 153 -/
theorem B153 : zB 153 = cX6_worst := rfl
theorem f153_0 : zft 153 0 = some (.aload_n 0, 1) := fet B153 (by decide +kernel) (Or.inr rfl)
theorem f153_1 : zft 153 1 = some (.invokevirtual 205, 3) := fet B153 (by decide +kernel) (Or.inr rfl)
theorem f153_4 : zft 153 4 = some (.aload_n 0, 1) := fet B153 (by decide +kernel) (Or.inr rfl)
theorem f153_5 : zft 153 5 = some (.invokevirtual 226, 3) := fet B153 (by decide +kernel) (Or.inr rfl)
theorem f153_8 : zft 153 8 = some (.ireturn, 1) := fet B153 (by decide +kernel) (Or.inr rfl)
theorem x153_0 : Rn S 153 0 [.ref q] st I J Q = Rn S 153 1 [.ref q] (.ref q :: st) I J Q := rL f153_0 rfl rfl
theorem x153_1 : Rn S 153 1 [v0] (.ref q :: st) I J Q = ((zcls S q = 6 ∧ zcs st ≤ 8) ∧ Rn S 141 0 [.ref q] [] I J (fun v I' J' => Rn S 153 4 [v0] (v.toList ++ st) I' J' Q)) := rCV (As := []) f153_1 rfl rfl rfl rfl (Nat.le_of_ble_eq_true rfl)
theorem x153_4 : Rn S 153 4 [.ref q] st I J Q = Rn S 153 5 [.ref q] (.ref q :: st) I J Q := rL f153_4 rfl rfl
theorem x153_5 : Rn S 153 5 [v0] (.ref q :: st) I J Q = ((zcls S q = 6 ∧ zcs st ≤ 8) ∧ Rn S 152 0 [.ref q, .null, .null] [] I J (fun v I' J' => Rn S 153 8 [v0] (v.toList ++ st) I' J' Q)) := rCV (As := []) f153_5 rfl rfl rfl rfl (Nat.le_of_ble_eq_true rfl)
theorem x153_8 : Rn S 153 8 [v0] [.int a] I J Q = Q (some (.int a)) I J := rR f153_8 rfl rfl rfl rfl rfl
/-! X6.leftBy: 154 -/
theorem B154 : zB 154 = cX6_leftBy := rfl
theorem f154_0 : zft 154 0 = some (.iconst 0, 1) := fet B154 (by decide +kernel) (Or.inr rfl)
theorem f154_1 : zft 154 1 = some (.istore_n 2, 1) := fet B154 (by decide +kernel) (Or.inr rfl)
theorem f154_2 : zft 154 2 = some (.iconst 0, 1) := fet B154 (by decide +kernel) (Or.inr rfl)
theorem f154_3 : zft 154 3 = some (.istore_n 3, 1) := fet B154 (by decide +kernel) (Or.inr rfl)
theorem f154_4 : zft 154 4 = some (.iload_n 3, 1) := fet B154 (by decide +kernel) (Or.inr rfl)
theorem f154_5 : zft 154 5 = some (.aload_n 0, 1) := fet B154 (by decide +kernel) (Or.inr rfl)
theorem f154_6 : zft 154 6 = some (.getfield 122, 3) := fet B154 (by decide +kernel) (Or.inr rfl)
theorem f154_9 : zft 154 9 = some (.if_icmp .ge 71, 3) := fet B154 (by decide +kernel) (Or.inr rfl)
theorem f154_12 : zft 154 12 = some (.iload_n 1, 1) := fet B154 (by decide +kernel) (Or.inr rfl)
theorem f154_13 : zft 154 13 = some (.ifCond .ne 20, 3) := fet B154 (by decide +kernel) (Or.inr rfl)
theorem f154_16 : zft 154 16 = some (.aload_n 0, 1) := fet B154 (by decide +kernel) (Or.inr rfl)
theorem f154_17 : zft 154 17 = some (.getfield 71, 3) := fet B154 (by decide +kernel) (Or.inr rfl)
theorem f154_20 : zft 154 20 = some (.iload_n 3, 1) := fet B154 (by decide +kernel) (Or.inr rfl)
theorem f154_21 : zft 154 21 = some (.iaload, 1) := fet B154 (by decide +kernel) (Or.inr rfl)
theorem f154_22 : zft 154 22 = some (.ifCond .ne 7, 3) := fet B154 (by decide +kernel) (Or.inr rfl)
theorem f154_25 : zft 154 25 = some (.iconst 1, 1) := fet B154 (by decide +kernel) (Or.inr rfl)
theorem f154_26 : zft 154 26 = some (.goto 31, 3) := fet B154 (by decide +kernel) (Or.inr rfl)
theorem f154_29 : zft 154 29 = some (.iconst 0, 1) := fet B154 (by decide +kernel) (Or.inr rfl)
theorem f154_30 : zft 154 30 = some (.goto 27, 3) := fet B154 (by decide +kernel) (Or.inr rfl)
theorem f154_33 : zft 154 33 = some (.aload_n 0, 1) := fet B154 (by decide +kernel) (Or.inr rfl)
theorem f154_34 : zft 154 34 = some (.getfield 71, 3) := fet B154 (by decide +kernel) (Or.inr rfl)
theorem f154_37 : zft 154 37 = some (.iload_n 3, 1) := fet B154 (by decide +kernel) (Or.inr rfl)
theorem f154_38 : zft 154 38 = some (.iaload, 1) := fet B154 (by decide +kernel) (Or.inr rfl)
theorem f154_39 : zft 154 39 = some (.ifCond .le 17, 3) := fet B154 (by decide +kernel) (Or.inr rfl)
theorem f154_42 : zft 154 42 = some (.aload_n 0, 1) := fet B154 (by decide +kernel) (Or.inr rfl)
theorem f154_43 : zft 154 43 = some (.getfield 65, 3) := fet B154 (by decide +kernel) (Or.inr rfl)
theorem f154_46 : zft 154 46 = some (.iload_n 3, 1) := fet B154 (by decide +kernel) (Or.inr rfl)
theorem f154_47 : zft 154 47 = some (.iaload, 1) := fet B154 (by decide +kernel) (Or.inr rfl)
theorem f154_48 : zft 154 48 = some (.iconst (-1), 1) := fet B154 (by decide +kernel) (Or.inr rfl)
theorem f154_49 : zft 154 49 = some (.if_icmp .ne 7, 3) := fet B154 (by decide +kernel) (Or.inr rfl)
theorem f154_52 : zft 154 52 = some (.iconst 1, 1) := fet B154 (by decide +kernel) (Or.inr rfl)
theorem f154_53 : zft 154 53 = some (.goto 4, 3) := fet B154 (by decide +kernel) (Or.inr rfl)
theorem f154_56 : zft 154 56 = some (.iconst 0, 1) := fet B154 (by decide +kernel) (Or.inr rfl)
theorem f154_57 : zft 154 57 = some (.istore 4, 2) := fet B154 (by decide +kernel) (Or.inr rfl)
theorem f154_59 : zft 154 59 = some (.iload_n 2, 1) := fet B154 (by decide +kernel) (Or.inr rfl)
theorem f154_60 : zft 154 60 = some (.iload 4, 2) := fet B154 (by decide +kernel) (Or.inr rfl)
theorem f154_62 : zft 154 62 = some (.ifCond .eq 9, 3) := fet B154 (by decide +kernel) (Or.inr rfl)
theorem f154_65 : zft 154 65 = some (.iconst 1, 1) := fet B154 (by decide +kernel) (Or.inr rfl)
theorem f154_66 : zft 154 66 = some (.iload_n 3, 1) := fet B154 (by decide +kernel) (Or.inr rfl)
theorem f154_67 : zft 154 67 = some (.ishl, 1) := fet B154 (by decide +kernel) (Or.inr rfl)
theorem f154_68 : zft 154 68 = some (.goto 4, 3) := fet B154 (by decide +kernel) (Or.inr rfl)
theorem f154_71 : zft 154 71 = some (.iconst 0, 1) := fet B154 (by decide +kernel) (Or.inr rfl)
theorem f154_72 : zft 154 72 = some (.ior, 1) := fet B154 (by decide +kernel) (Or.inr rfl)
theorem f154_73 : zft 154 73 = some (.istore_n 2, 1) := fet B154 (by decide +kernel) (Or.inr rfl)
theorem f154_74 : zft 154 74 = some (.iinc 3 1, 3) := fet B154 (by decide +kernel) (Or.inr rfl)
theorem f154_77 : zft 154 77 = some (.goto (-73), 3) := fet B154 (by decide +kernel) (Or.inr rfl)
theorem f154_80 : zft 154 80 = some (.iload_n 2, 1) := fet B154 (by decide +kernel) (Or.inr rfl)
theorem f154_81 : zft 154 81 = some (.ireturn, 1) := fet B154 (by decide +kernel) (Or.inr rfl)
theorem x154_0 : Rn S 154 0 [v0, v1, v2, v3, v4] st I J Q = Rn S 154 1 [v0, v1, v2, v3, v4] (.int 0 :: st) I J Q := rS f154_0 rfl
theorem x154_1 : Rn S 154 1 [v0, v1, v2, v3, v4] (.int a :: st) I J Q = Rn S 154 2 [v0, zkl v1, .int a, v3, v4] st I J Q := rL f154_1 rfl rfl
theorem x154_2 : Rn S 154 2 [v0, v1, v2, v3, v4] st I J Q = Rn S 154 3 [v0, v1, v2, v3, v4] (.int 0 :: st) I J Q := rS f154_2 rfl
theorem x154_3 : Rn S 154 3 [v0, v1, v2, v3, v4] (.int a :: st) I J Q = Rn S 154 4 [v0, v1, zkl v2, .int a, v4] st I J Q := rL f154_3 rfl rfl
theorem h154_4 : Rn S 154 4 [v0, v1, v2, .int a, v4] st I J Q = Rn S 154 5 [v0, v1, v2, .int a, v4] (.int a :: st) I J Q := rL f154_4 rfl rfl
theorem x154_5 : Rn S 154 5 [.ref q, v1, v2, v3, v4] st I J Q = Rn S 154 6 [.ref q, v1, v2, v3, v4] (.ref q :: st) I J Q := rL f154_5 rfl rfl
theorem x154_6_65 : Rn (zG xl) 154 6 [v0, v1, v2, v3, v4] (.ref 65 :: st) I J Q = Rn (zG xl) 154 9 [v0, v1, v2, v3, v4] (.int (I 65 7) :: st) I J Q := (rGf f154_6 rfl).trans (tr_and rfl)
theorem x154_9 : Rn S 154 9 [v0, v1, v2, v3, v4] (.int b :: .int a :: st) I J Q = if a < b then Rn S 154 12 [v0, v1, v2, v3, v4] st I J Q else Rn S 154 80 [v0, v1, v2, v3, v4] st I J Q := rCge f154_9 rfl rfl
theorem x154_12 : Rn S 154 12 [v0, .int a, v2, v3, v4] st I J Q = Rn S 154 13 [v0, .int a, v2, v3, v4] (.int a :: st) I J Q := rL f154_12 rfl rfl
theorem x154_13 : Rn S 154 13 [v0, v1, v2, v3, v4] (.int a :: st) I J Q = if a = 0 then Rn S 154 16 [v0, v1, v2, v3, v4] st I J Q else Rn S 154 33 [v0, v1, v2, v3, v4] st I J Q := rIne f154_13 rfl rfl
theorem x154_16 : Rn S 154 16 [.ref q, v1, v2, v3, v4] st I J Q = Rn S 154 17 [.ref q, v1, v2, v3, v4] (.ref q :: st) I J Q := rL f154_16 rfl rfl
theorem x154_17_65 : Rn (zG xl) 154 17 [v0, v1, v2, v3, v4] (.ref 65 :: st) I J Q = Rn (zG xl) 154 20 [v0, v1, v2, v3, v4] (.ref 86 :: st) I J Q := (rGf f154_17 rfl).trans (tr_and rfl)
theorem x154_20 : Rn S 154 20 [v0, v1, v2, .int a, v4] st I J Q = Rn S 154 21 [v0, v1, v2, .int a, v4] (.int a :: st) I J Q := rL f154_20 rfl rfl
theorem x154_21 : Rn S 154 21 [v0, v1, v2, v3, v4] (.int a :: .ref q :: st) I J Q = (zai S q a ∧ Rn S 154 22 [v0, v1, v2, v3, v4] (.int (I q a.toNatClampNeg) :: st) I J Q) := rIal f154_21
theorem x154_22 : Rn S 154 22 [v0, v1, v2, v3, v4] (.int a :: st) I J Q = if a = 0 then Rn S 154 25 [v0, v1, v2, v3, v4] st I J Q else Rn S 154 29 [v0, v1, v2, v3, v4] st I J Q := rIne f154_22 rfl rfl
theorem x154_25 : Rn S 154 25 [v0, v1, v2, v3, v4] st I J Q = Rn S 154 26 [v0, v1, v2, v3, v4] (.int 1 :: st) I J Q := rS f154_25 rfl
theorem x154_26 : Rn S 154 26 [v0, v1, v2, v3, v4] st I J Q = Rn S 154 57 [v0, v1, v2, v3, v4] st I J Q := rB f154_26 rfl rfl rfl
theorem x154_29 : Rn S 154 29 [v0, v1, v2, v3, v4] st I J Q = Rn S 154 30 [v0, v1, v2, v3, v4] (.int 0 :: st) I J Q := rS f154_29 rfl
theorem x154_30 : Rn S 154 30 [v0, v1, v2, v3, v4] st I J Q = Rn S 154 57 [v0, v1, v2, v3, v4] st I J Q := rB f154_30 rfl rfl rfl
theorem x154_33 : Rn S 154 33 [.ref q, v1, v2, v3, v4] st I J Q = Rn S 154 34 [.ref q, v1, v2, v3, v4] (.ref q :: st) I J Q := rL f154_33 rfl rfl
theorem x154_34_65 : Rn (zG xl) 154 34 [v0, v1, v2, v3, v4] (.ref 65 :: st) I J Q = Rn (zG xl) 154 37 [v0, v1, v2, v3, v4] (.ref 86 :: st) I J Q := (rGf f154_34 rfl).trans (tr_and rfl)
theorem x154_37 : Rn S 154 37 [v0, v1, v2, .int a, v4] st I J Q = Rn S 154 38 [v0, v1, v2, .int a, v4] (.int a :: st) I J Q := rL f154_37 rfl rfl
theorem x154_38 : Rn S 154 38 [v0, v1, v2, v3, v4] (.int a :: .ref q :: st) I J Q = (zai S q a ∧ Rn S 154 39 [v0, v1, v2, v3, v4] (.int (I q a.toNatClampNeg) :: st) I J Q) := rIal f154_38
theorem x154_39 : Rn S 154 39 [v0, v1, v2, v3, v4] (.int a :: st) I J Q = if 0 < a then Rn S 154 42 [v0, v1, v2, v3, v4] st I J Q else Rn S 154 56 [v0, v1, v2, v3, v4] st I J Q := rIle f154_39 rfl rfl
theorem x154_42 : Rn S 154 42 [.ref q, v1, v2, v3, v4] st I J Q = Rn S 154 43 [.ref q, v1, v2, v3, v4] (.ref q :: st) I J Q := rL f154_42 rfl rfl
theorem x154_43_65 : Rn (zG xl) 154 43 [v0, v1, v2, v3, v4] (.ref 65 :: st) I J Q = Rn (zG xl) 154 46 [v0, v1, v2, v3, v4] (.ref 84 :: st) I J Q := (rGf f154_43 rfl).trans (tr_and rfl)
theorem x154_46 : Rn S 154 46 [v0, v1, v2, .int a, v4] st I J Q = Rn S 154 47 [v0, v1, v2, .int a, v4] (.int a :: st) I J Q := rL f154_46 rfl rfl
theorem x154_47 : Rn S 154 47 [v0, v1, v2, v3, v4] (.int a :: .ref q :: st) I J Q = (zai S q a ∧ Rn S 154 48 [v0, v1, v2, v3, v4] (.int (I q a.toNatClampNeg) :: st) I J Q) := rIal f154_47
theorem x154_48 : Rn S 154 48 [v0, v1, v2, v3, v4] st I J Q = Rn S 154 49 [v0, v1, v2, v3, v4] (.int (-1) :: st) I J Q := rS f154_48 rfl
theorem x154_49 : Rn S 154 49 [v0, v1, v2, v3, v4] (.int b :: .int a :: st) I J Q = if a = b then Rn S 154 52 [v0, v1, v2, v3, v4] st I J Q else Rn S 154 56 [v0, v1, v2, v3, v4] st I J Q := rCne f154_49 rfl rfl
theorem x154_52 : Rn S 154 52 [v0, v1, v2, v3, v4] st I J Q = Rn S 154 53 [v0, v1, v2, v3, v4] (.int 1 :: st) I J Q := rS f154_52 rfl
theorem x154_53 : Rn S 154 53 [v0, v1, v2, v3, v4] st I J Q = Rn S 154 57 [v0, v1, v2, v3, v4] st I J Q := rB f154_53 rfl rfl rfl
theorem x154_56 : Rn S 154 56 [v0, v1, v2, v3, v4] st I J Q = Rn S 154 57 [v0, v1, v2, v3, v4] (.int 0 :: st) I J Q := rS f154_56 rfl
theorem x154_57 : Rn S 154 57 [v0, v1, v2, v3, v4] (.int a :: st) I J Q = Rn S 154 59 [v0, v1, v2, zkl v3, .int a] st I J Q := rL f154_57 rfl rfl
theorem x154_59 : Rn S 154 59 [v0, v1, .int a, v3, v4] st I J Q = Rn S 154 60 [v0, v1, .int a, v3, v4] (.int a :: st) I J Q := rL f154_59 rfl rfl
theorem x154_60 : Rn S 154 60 [v0, v1, v2, v3, .int a] st I J Q = Rn S 154 62 [v0, v1, v2, v3, .int a] (.int a :: st) I J Q := rL f154_60 rfl rfl
theorem x154_62 : Rn S 154 62 [v0, v1, v2, v3, v4] (.int a :: st) I J Q = if a = 0 then Rn S 154 71 [v0, v1, v2, v3, v4] st I J Q else Rn S 154 65 [v0, v1, v2, v3, v4] st I J Q := rIeq f154_62 rfl rfl
theorem x154_65 : Rn S 154 65 [v0, v1, v2, v3, v4] st I J Q = Rn S 154 66 [v0, v1, v2, v3, v4] (.int 1 :: st) I J Q := rS f154_65 rfl
theorem x154_66 : Rn S 154 66 [v0, v1, v2, .int a, v4] st I J Q = Rn S 154 67 [v0, v1, v2, .int a, v4] (.int a :: st) I J Q := rL f154_66 rfl rfl
theorem x154_67 : Rn S 154 67 [v0, v1, v2, v3, v4] (.int b :: .int a :: st) I J Q = Rn S 154 68 [v0, v1, v2, v3, v4] (.int (a <<< (b &&& 31)) :: st) I J Q := rS f154_67 rfl
theorem x154_68 : Rn S 154 68 [v0, v1, v2, v3, v4] st I J Q = Rn S 154 72 [v0, v1, v2, v3, v4] st I J Q := rB f154_68 rfl rfl rfl
theorem x154_71 : Rn S 154 71 [v0, v1, v2, v3, v4] st I J Q = Rn S 154 72 [v0, v1, v2, v3, v4] (.int 0 :: st) I J Q := rS f154_71 rfl
theorem x154_72 : Rn S 154 72 [v0, v1, v2, v3, v4] (.int b :: .int a :: st) I J Q = Rn S 154 73 [v0, v1, v2, v3, v4] (.int (a ||| b) :: st) I J Q := rS f154_72 rfl
theorem x154_73 : Rn S 154 73 [v0, v1, v2, v3, v4] (.int a :: st) I J Q = Rn S 154 74 [v0, zkl v1, .int a, v3, v4] st I J Q := rL f154_73 rfl rfl
theorem x154_74 : Rn S 154 74 [v0, v1, v2, .int a, v4] st I J Q = Rn S 154 77 [v0, v1, zkl v2, .int (a + 1), v4] st I J Q := rL f154_74 rfl rfl
theorem x154_77 : Rn S 154 77 [v0, v1, v2, v3, v4] st I J Q = Rn S 154 4 [v0, v1, v2, v3, v4] st I J Q := rB f154_77 rfl rfl rfl
theorem x154_80 : Rn S 154 80 [v0, v1, .int a, v3, v4] st I J Q = Rn S 154 81 [v0, v1, .int a, v3, v4] (.int a :: st) I J Q := rL f154_80 rfl rfl
theorem x154_81 : Rn S 154 81 [v0, v1, v2, v3, v4] [.int a] I J Q = Q (some (.int a)) I J := rR f154_81 rfl rfl rfl rfl rfl
/-! X6.left: 155 -/
theorem B155 : zB 155 = cX6_left := rfl
theorem f155_0 : zft 155 0 = some (.aload_n 0, 1) := fet B155 (by decide +kernel) (Or.inr rfl)
theorem f155_1 : zft 155 1 = some (.invokevirtual 205, 3) := fet B155 (by decide +kernel) (Or.inr rfl)
theorem f155_4 : zft 155 4 = some (.iload_n 1, 1) := fet B155 (by decide +kernel) (Or.inr rfl)
theorem f155_5 : zft 155 5 = some (.invokestatic 164, 3) := fet B155 (by decide +kernel) (Or.inr rfl)
theorem f155_8 : zft 155 8 = some (.ifCond .eq 11, 3) := fet B155 (by decide +kernel) (Or.inr rfl)
theorem f155_11 : zft 155 11 = some (.aload_n 0, 1) := fet B155 (by decide +kernel) (Or.inr rfl)
theorem f155_12 : zft 155 12 = some (.iload_n 1, 1) := fet B155 (by decide +kernel) (Or.inr rfl)
theorem f155_13 : zft 155 13 = some (.invokevirtual 229, 3) := fet B155 (by decide +kernel) (Or.inr rfl)
theorem f155_16 : zft 155 16 = some (.goto 5, 3) := fet B155 (by decide +kernel) (Or.inr rfl)
theorem f155_19 : zft 155 19 = some (.bipush (-2), 2) := fet B155 (by decide +kernel) (Or.inr rfl)
theorem f155_21 : zft 155 21 = some (.ireturn, 1) := fet B155 (by decide +kernel) (Or.inr rfl)
theorem x155_0 : Rn S 155 0 [.ref q, v1] st I J Q = Rn S 155 1 [.ref q, v1] (.ref q :: st) I J Q := rL f155_0 rfl rfl
theorem x155_1 : Rn S 155 1 [v0, v1] (.ref q :: st) I J Q = ((zcls S q = 6 ∧ zcs st ≤ 8) ∧ Rn S 141 0 [.ref q] [] I J (fun v I' J' => Rn S 155 4 [v0, v1] (v.toList ++ st) I' J' Q)) := rCV (As := []) f155_1 rfl rfl rfl rfl (Nat.le_of_ble_eq_true rfl)
theorem x155_4 : Rn S 155 4 [v0, .int a] st I J Q = Rn S 155 5 [v0, .int a] (.int a :: st) I J Q := rL f155_4 rfl rfl
theorem x155_5 : Rn S 155 5 [v0, v1] (.int a0 :: st) I J Q = (zcs st ≤ 8 ∧ Rn S 98 0 [.int a0] [] I J (fun v I' J' => Rn S 155 8 [v0, v1] (v.toList ++ st) I' J' Q)) := rCS (As := [.int a0]) f155_5 rfl rfl rfl rfl (Nat.le_of_ble_eq_true rfl)
theorem x155_8 : Rn S 155 8 [v0, v1] (.int a :: st) I J Q = if a = 0 then Rn S 155 19 [v0, v1] st I J Q else Rn S 155 11 [v0, v1] st I J Q := rIeq f155_8 rfl rfl
theorem x155_11 : Rn S 155 11 [.ref q, v1] st I J Q = Rn S 155 12 [.ref q, v1] (.ref q :: st) I J Q := rL f155_11 rfl rfl
theorem x155_12 : Rn S 155 12 [v0, .int a] st I J Q = Rn S 155 13 [v0, .int a] (.int a :: st) I J Q := rL f155_12 rfl rfl
theorem x155_13 : Rn S 155 13 [v0, v1] (.int a0 :: .ref q :: st) I J Q = ((zcls S q = 6 ∧ zcs st ≤ 8) ∧ Rn S 154 0 [.ref q, .int a0, .null, .null, .null] [] I J (fun v I' J' => Rn S 155 16 [v0, v1] (v.toList ++ st) I' J' Q)) := rCV (As := [.int a0]) f155_13 rfl rfl rfl rfl (Nat.le_of_ble_eq_true rfl)
theorem x155_16 : Rn S 155 16 [v0, v1] st I J Q = Rn S 155 21 [v0, v1] st I J Q := rB f155_16 rfl rfl rfl
theorem x155_19 : Rn S 155 19 [v0, v1] st I J Q = Rn S 155 21 [v0, v1] (.int (-2) :: st) I J Q := rS f155_19 rfl
theorem x155_21 : Rn S 155 21 [v0, v1] [.int a] I J Q = Q (some (.int a)) I J := rR f155_21 rfl rfl rfl rfl rfl
/-! X6.moreBy: 156 -/
theorem B156 : zB 156 = cX6_moreBy := rfl
theorem f156_0 : zft 156 0 = some (.iconst (-1), 1) := fet B156 (by decide +kernel) (Or.inr rfl)
theorem f156_1 : zft 156 1 = some (.istore_n 2, 1) := fet B156 (by decide +kernel) (Or.inr rfl)
theorem f156_2 : zft 156 2 = some (.sipush 999, 3) := fet B156 (by decide +kernel) (Or.inr rfl)
theorem f156_5 : zft 156 5 = some (.istore_n 3, 1) := fet B156 (by decide +kernel) (Or.inr rfl)
theorem f156_6 : zft 156 6 = some (.iconst 2, 1) := fet B156 (by decide +kernel) (Or.inr rfl)
theorem f156_7 : zft 156 7 = some (.aload_n 0, 1) := fet B156 (by decide +kernel) (Or.inr rfl)
theorem f156_8 : zft 156 8 = some (.getfield 134, 3) := fet B156 (by decide +kernel) (Or.inr rfl)
theorem f156_11 : zft 156 11 = some (.imul, 1) := fet B156 (by decide +kernel) (Or.inr rfl)
theorem f156_12 : zft 156 12 = some (.istore 4, 2) := fet B156 (by decide +kernel) (Or.inr rfl)
theorem f156_14 : zft 156 14 = some (.aload_n 0, 1) := fet B156 (by decide +kernel) (Or.inr rfl)
theorem f156_15 : zft 156 15 = some (.dup, 1) := fet B156 (by decide +kernel) (Or.inr rfl)
theorem f156_16 : zft 156 16 = some (.getfield 134, 3) := fet B156 (by decide +kernel) (Or.inr rfl)
theorem f156_19 : zft 156 19 = some (.iconst 1, 1) := fet B156 (by decide +kernel) (Or.inr rfl)
theorem f156_20 : zft 156 20 = some (.iadd, 1) := fet B156 (by decide +kernel) (Or.inr rfl)
theorem f156_21 : zft 156 21 = some (.putfield 134, 3) := fet B156 (by decide +kernel) (Or.inr rfl)
theorem f156_24 : zft 156 24 = some (.iconst 0, 1) := fet B156 (by decide +kernel) (Or.inr rfl)
theorem f156_25 : zft 156 25 = some (.istore 5, 2) := fet B156 (by decide +kernel) (Or.inr rfl)
theorem f156_27 : zft 156 27 = some (.iload 5, 2) := fet B156 (by decide +kernel) (Or.inr rfl)
theorem f156_29 : zft 156 29 = some (.bipush 10, 2) := fet B156 (by decide +kernel) (Or.inr rfl)
theorem f156_31 : zft 156 31 = some (.aload_n 0, 1) := fet B156 (by decide +kernel) (Or.inr rfl)
theorem f156_32 : zft 156 32 = some (.getfield 128, 3) := fet B156 (by decide +kernel) (Or.inr rfl)
theorem f156_35 : zft 156 35 = some (.imul, 1) := fet B156 (by decide +kernel) (Or.inr rfl)
theorem f156_36 : zft 156 36 = some (.if_icmp .ge 77, 3) := fet B156 (by decide +kernel) (Or.inr rfl)
theorem f156_39 : zft 156 39 = some (.iload 5, 2) := fet B156 (by decide +kernel) (Or.inr rfl)
theorem f156_41 : zft 156 41 = some (.bipush 10, 2) := fet B156 (by decide +kernel) (Or.inr rfl)
theorem f156_43 : zft 156 43 = some (.irem, 1) := fet B156 (by decide +kernel) (Or.inr rfl)
theorem f156_44 : zft 156 44 = some (.aload_n 0, 1) := fet B156 (by decide +kernel) (Or.inr rfl)
theorem f156_45 : zft 156 45 = some (.getfield 122, 3) := fet B156 (by decide +kernel) (Or.inr rfl)
theorem f156_48 : zft 156 48 = some (.if_icmp .ge 59, 3) := fet B156 (by decide +kernel) (Or.inr rfl)
theorem f156_51 : zft 156 51 = some (.aload_n 0, 1) := fet B156 (by decide +kernel) (Or.inr rfl)
theorem f156_52 : zft 156 52 = some (.getfield 34, 3) := fet B156 (by decide +kernel) (Or.inr rfl)
theorem f156_55 : zft 156 55 = some (.iload 4, 2) := fet B156 (by decide +kernel) (Or.inr rfl)
theorem f156_57 : zft 156 57 = some (.iload 5, 2) := fet B156 (by decide +kernel) (Or.inr rfl)
theorem f156_59 : zft 156 59 = some (.bipush 10, 2) := fet B156 (by decide +kernel) (Or.inr rfl)
theorem f156_61 : zft 156 61 = some (.idiv, 1) := fet B156 (by decide +kernel) (Or.inr rfl)
theorem f156_62 : zft 156 62 = some (.iastore, 1) := fet B156 (by decide +kernel) (Or.inr rfl)
theorem f156_63 : zft 156 63 = some (.aload_n 0, 1) := fet B156 (by decide +kernel) (Or.inr rfl)
theorem f156_64 : zft 156 64 = some (.getfield 34, 3) := fet B156 (by decide +kernel) (Or.inr rfl)
theorem f156_67 : zft 156 67 = some (.iload 4, 2) := fet B156 (by decide +kernel) (Or.inr rfl)
theorem f156_69 : zft 156 69 = some (.iconst 1, 1) := fet B156 (by decide +kernel) (Or.inr rfl)
theorem f156_70 : zft 156 70 = some (.iadd, 1) := fet B156 (by decide +kernel) (Or.inr rfl)
theorem f156_71 : zft 156 71 = some (.iload 5, 2) := fet B156 (by decide +kernel) (Or.inr rfl)
theorem f156_73 : zft 156 73 = some (.bipush 10, 2) := fet B156 (by decide +kernel) (Or.inr rfl)
theorem f156_75 : zft 156 75 = some (.irem, 1) := fet B156 (by decide +kernel) (Or.inr rfl)
theorem f156_76 : zft 156 76 = some (.iastore, 1) := fet B156 (by decide +kernel) (Or.inr rfl)
theorem f156_77 : zft 156 77 = some (.aload_n 0, 1) := fet B156 (by decide +kernel) (Or.inr rfl)
theorem f156_78 : zft 156 78 = some (.invokevirtual 202, 3) := fet B156 (by decide +kernel) (Or.inr rfl)
theorem f156_81 : zft 156 81 = some (.aload_n 0, 1) := fet B156 (by decide +kernel) (Or.inr rfl)
theorem f156_82 : zft 156 82 = some (.invokevirtual 223, 3) := fet B156 (by decide +kernel) (Or.inr rfl)
theorem f156_85 : zft 156 85 = some (.istore 6, 2) := fet B156 (by decide +kernel) (Or.inr rfl)
theorem f156_87 : zft 156 87 = some (.iload 6, 2) := fet B156 (by decide +kernel) (Or.inr rfl)
theorem f156_89 : zft 156 89 = some (.iload_n 3, 1) := fet B156 (by decide +kernel) (Or.inr rfl)
theorem f156_90 : zft 156 90 = some (.if_icmp .ge 8, 3) := fet B156 (by decide +kernel) (Or.inr rfl)
theorem f156_93 : zft 156 93 = some (.iload 5, 2) := fet B156 (by decide +kernel) (Or.inr rfl)
theorem f156_95 : zft 156 95 = some (.goto 4, 3) := fet B156 (by decide +kernel) (Or.inr rfl)
theorem f156_98 : zft 156 98 = some (.iload_n 2, 1) := fet B156 (by decide +kernel) (Or.inr rfl)
theorem f156_99 : zft 156 99 = some (.istore_n 2, 1) := fet B156 (by decide +kernel) (Or.inr rfl)
theorem f156_100 : zft 156 100 = some (.iload 6, 2) := fet B156 (by decide +kernel) (Or.inr rfl)
theorem f156_102 : zft 156 102 = some (.iload_n 3, 1) := fet B156 (by decide +kernel) (Or.inr rfl)
theorem f156_103 : zft 156 103 = some (.invokestatic 232, 3) := fet B156 (by decide +kernel) (Or.inr rfl)
theorem f156_106 : zft 156 106 = some (.istore_n 3, 1) := fet B156 (by decide +kernel) (Or.inr rfl)
theorem f156_107 : zft 156 107 = some (.iinc 5 1, 3) := fet B156 (by decide +kernel) (Or.inr rfl)
theorem f156_110 : zft 156 110 = some (.goto (-83), 3) := fet B156 (by decide +kernel) (Or.inr rfl)
theorem f156_113 : zft 156 113 = some (.aload_n 0, 1) := fet B156 (by decide +kernel) (Or.inr rfl)
theorem f156_114 : zft 156 114 = some (.dup, 1) := fet B156 (by decide +kernel) (Or.inr rfl)
theorem f156_115 : zft 156 115 = some (.getfield 134, 3) := fet B156 (by decide +kernel) (Or.inr rfl)
theorem f156_118 : zft 156 118 = some (.iconst 1, 1) := fet B156 (by decide +kernel) (Or.inr rfl)
theorem f156_119 : zft 156 119 = some (.isub, 1) := fet B156 (by decide +kernel) (Or.inr rfl)
theorem f156_120 : zft 156 120 = some (.putfield 134, 3) := fet B156 (by decide +kernel) (Or.inr rfl)
theorem f156_123 : zft 156 123 = some (.iload_n 2, 1) := fet B156 (by decide +kernel) (Or.inr rfl)
theorem f156_124 : zft 156 124 = some (.iconst (-1), 1) := fet B156 (by decide +kernel) (Or.inr rfl)
theorem f156_125 : zft 156 125 = some (.if_icmp .ne 7, 3) := fet B156 (by decide +kernel) (Or.inr rfl)
theorem f156_128 : zft 156 128 = some (.iconst (-1), 1) := fet B156 (by decide +kernel) (Or.inr rfl)
theorem f156_129 : zft 156 129 = some (.goto 27, 3) := fet B156 (by decide +kernel) (Or.inr rfl)
theorem f156_132 : zft 156 132 = some (.iload_n 1, 1) := fet B156 (by decide +kernel) (Or.inr rfl)
theorem f156_133 : zft 156 133 = some (.ifCond .ne 10, 3) := fet B156 (by decide +kernel) (Or.inr rfl)
theorem f156_136 : zft 156 136 = some (.iload_n 2, 1) := fet B156 (by decide +kernel) (Or.inr rfl)
theorem f156_137 : zft 156 137 = some (.bipush 10, 2) := fet B156 (by decide +kernel) (Or.inr rfl)
theorem f156_139 : zft 156 139 = some (.idiv, 1) := fet B156 (by decide +kernel) (Or.inr rfl)
theorem f156_140 : zft 156 140 = some (.goto 16, 3) := fet B156 (by decide +kernel) (Or.inr rfl)
theorem f156_143 : zft 156 143 = some (.iload_n 1, 1) := fet B156 (by decide +kernel) (Or.inr rfl)
theorem f156_144 : zft 156 144 = some (.iconst 1, 1) := fet B156 (by decide +kernel) (Or.inr rfl)
theorem f156_145 : zft 156 145 = some (.if_icmp .ne 10, 3) := fet B156 (by decide +kernel) (Or.inr rfl)
theorem f156_148 : zft 156 148 = some (.iload_n 2, 1) := fet B156 (by decide +kernel) (Or.inr rfl)
theorem f156_149 : zft 156 149 = some (.bipush 10, 2) := fet B156 (by decide +kernel) (Or.inr rfl)
theorem f156_151 : zft 156 151 = some (.irem, 1) := fet B156 (by decide +kernel) (Or.inr rfl)
theorem f156_152 : zft 156 152 = some (.goto 4, 3) := fet B156 (by decide +kernel) (Or.inr rfl)
theorem f156_155 : zft 156 155 = some (.iload_n 3, 1) := fet B156 (by decide +kernel) (Or.inr rfl)
theorem f156_156 : zft 156 156 = some (.ireturn, 1) := fet B156 (by decide +kernel) (Or.inr rfl)
theorem x156_0 : Rn S 156 0 [v0, v1, v2, v3, v4, v5, v6] st I J Q = Rn S 156 1 [v0, v1, v2, v3, v4, v5, v6] (.int (-1) :: st) I J Q := rS f156_0 rfl
theorem x156_1 : Rn S 156 1 [v0, v1, v2, v3, v4, v5, v6] (.int a :: st) I J Q = Rn S 156 2 [v0, zkl v1, .int a, v3, v4, v5, v6] st I J Q := rL f156_1 rfl rfl
theorem x156_2 : Rn S 156 2 [v0, v1, v2, v3, v4, v5, v6] st I J Q = Rn S 156 5 [v0, v1, v2, v3, v4, v5, v6] (.int 999 :: st) I J Q := rS f156_2 rfl
theorem x156_5 : Rn S 156 5 [v0, v1, v2, v3, v4, v5, v6] (.int a :: st) I J Q = Rn S 156 6 [v0, v1, zkl v2, .int a, v4, v5, v6] st I J Q := rL f156_5 rfl rfl
theorem x156_6 : Rn S 156 6 [v0, v1, v2, v3, v4, v5, v6] st I J Q = Rn S 156 7 [v0, v1, v2, v3, v4, v5, v6] (.int 2 :: st) I J Q := rS f156_6 rfl
theorem x156_7 : Rn S 156 7 [.ref q, v1, v2, v3, v4, v5, v6] st I J Q = Rn S 156 8 [.ref q, v1, v2, v3, v4, v5, v6] (.ref q :: st) I J Q := rL f156_7 rfl rfl
theorem x156_8_65 : Rn (zG xl) 156 8 [v0, v1, v2, v3, v4, v5, v6] (.ref 65 :: st) I J Q = Rn (zG xl) 156 11 [v0, v1, v2, v3, v4, v5, v6] (.int (I 65 11) :: st) I J Q := (rGf f156_8 rfl).trans (tr_and rfl)
theorem x156_11 : Rn S 156 11 [v0, v1, v2, v3, v4, v5, v6] (.int b :: .int a :: st) I J Q = Rn S 156 12 [v0, v1, v2, v3, v4, v5, v6] (.int (a * b) :: st) I J Q := rS f156_11 rfl
theorem x156_12 : Rn S 156 12 [v0, v1, v2, v3, v4, v5, v6] (.int a :: st) I J Q = Rn S 156 14 [v0, v1, v2, zkl v3, .int a, v5, v6] st I J Q := rL f156_12 rfl rfl
theorem x156_14 : Rn S 156 14 [.ref q, v1, v2, v3, v4, v5, v6] st I J Q = Rn S 156 15 [.ref q, v1, v2, v3, v4, v5, v6] (.ref q :: st) I J Q := rL f156_14 rfl rfl
theorem x156_15i : Rn S 156 15 [v0, v1, v2, v3, v4, v5, v6] (.int a :: st) I J Q = Rn S 156 16 [v0, v1, v2, v3, v4, v5, v6] (.int a :: .int a :: st) I J Q := rS f156_15 rfl
theorem x156_15r : Rn S 156 15 [v0, v1, v2, v3, v4, v5, v6] (.ref q :: st) I J Q = Rn S 156 16 [v0, v1, v2, v3, v4, v5, v6] (.ref q :: .ref q :: st) I J Q := rS f156_15 rfl
theorem x156_16_65 : Rn (zG xl) 156 16 [v0, v1, v2, v3, v4, v5, v6] (.ref 65 :: st) I J Q = Rn (zG xl) 156 19 [v0, v1, v2, v3, v4, v5, v6] (.int (I 65 11) :: st) I J Q := (rGf f156_16 rfl).trans (tr_and rfl)
theorem x156_19 : Rn S 156 19 [v0, v1, v2, v3, v4, v5, v6] st I J Q = Rn S 156 20 [v0, v1, v2, v3, v4, v5, v6] (.int 1 :: st) I J Q := rS f156_19 rfl
theorem x156_20 : Rn S 156 20 [v0, v1, v2, v3, v4, v5, v6] (.int b :: .int a :: st) I J Q = Rn S 156 21 [v0, v1, v2, v3, v4, v5, v6] (.int (a + b) :: st) I J Q := rS f156_20 rfl
theorem x156_21_65 : Rn (zG xl) 156 21 [v0, v1, v2, v3, v4, v5, v6] (.int a :: .ref 65 :: st) I J Q = Rn (zG xl) 156 24 [v0, v1, v2, v3, v4, v5, v6] st (zr I 65 (upd (I 65) 11 a)) J Q := (rPf f156_21 rfl).trans (tr_pf rfl rfl rfl)
theorem x156_24 : Rn S 156 24 [v0, v1, v2, v3, v4, v5, v6] st I J Q = Rn S 156 25 [v0, v1, v2, v3, v4, v5, v6] (.int 0 :: st) I J Q := rS f156_24 rfl
theorem x156_25 : Rn S 156 25 [v0, v1, v2, v3, v4, v5, v6] (.int a :: st) I J Q = Rn S 156 27 [v0, v1, v2, v3, zkl v4, .int a, v6] st I J Q := rL f156_25 rfl rfl
theorem h156_27 : Rn S 156 27 [v0, v1, v2, v3, v4, .int a, v6] st I J Q = Rn S 156 29 [v0, v1, v2, v3, v4, .int a, v6] (.int a :: st) I J Q := rL f156_27 rfl rfl
theorem x156_29 : Rn S 156 29 [v0, v1, v2, v3, v4, v5, v6] st I J Q = Rn S 156 31 [v0, v1, v2, v3, v4, v5, v6] (.int 10 :: st) I J Q := rS f156_29 rfl
theorem x156_31 : Rn S 156 31 [.ref q, v1, v2, v3, v4, v5, v6] st I J Q = Rn S 156 32 [.ref q, v1, v2, v3, v4, v5, v6] (.ref q :: st) I J Q := rL f156_31 rfl rfl
theorem x156_32_65 : Rn (zG xl) 156 32 [v0, v1, v2, v3, v4, v5, v6] (.ref 65 :: st) I J Q = Rn (zG xl) 156 35 [v0, v1, v2, v3, v4, v5, v6] (.int (I 65 9) :: st) I J Q := (rGf f156_32 rfl).trans (tr_and rfl)
theorem x156_35 : Rn S 156 35 [v0, v1, v2, v3, v4, v5, v6] (.int b :: .int a :: st) I J Q = Rn S 156 36 [v0, v1, v2, v3, v4, v5, v6] (.int (a * b) :: st) I J Q := rS f156_35 rfl
theorem x156_36 : Rn S 156 36 [v0, v1, v2, v3, v4, v5, v6] (.int b :: .int a :: st) I J Q = if a < b then Rn S 156 39 [v0, v1, v2, v3, v4, v5, v6] st I J Q else Rn S 156 113 [v0, v1, v2, v3, v4, v5, v6] st I J Q := rCge f156_36 rfl rfl
theorem x156_39 : Rn S 156 39 [v0, v1, v2, v3, v4, .int a, v6] st I J Q = Rn S 156 41 [v0, v1, v2, v3, v4, .int a, v6] (.int a :: st) I J Q := rL f156_39 rfl rfl
theorem x156_41 : Rn S 156 41 [v0, v1, v2, v3, v4, v5, v6] st I J Q = Rn S 156 43 [v0, v1, v2, v3, v4, v5, v6] (.int 10 :: st) I J Q := rS f156_41 rfl
theorem x156_43 : Rn S 156 43 [v0, v1, v2, v3, v4, v5, v6] (.int b :: .int a :: st) I J Q = (¬ b = 0 ∧ Rn S 156 44 [v0, v1, v2, v3, v4, v5, v6] (.int (a - a / b * b) :: st) I J Q) := rRi f156_43
theorem x156_44 : Rn S 156 44 [.ref q, v1, v2, v3, v4, v5, v6] st I J Q = Rn S 156 45 [.ref q, v1, v2, v3, v4, v5, v6] (.ref q :: st) I J Q := rL f156_44 rfl rfl
theorem x156_45_65 : Rn (zG xl) 156 45 [v0, v1, v2, v3, v4, v5, v6] (.ref 65 :: st) I J Q = Rn (zG xl) 156 48 [v0, v1, v2, v3, v4, v5, v6] (.int (I 65 7) :: st) I J Q := (rGf f156_45 rfl).trans (tr_and rfl)
theorem x156_48 : Rn S 156 48 [v0, v1, v2, v3, v4, v5, v6] (.int b :: .int a :: st) I J Q = if a < b then Rn S 156 51 [v0, v1, v2, v3, v4, v5, v6] st I J Q else Rn S 156 107 [v0, v1, v2, v3, v4, v5, v6] st I J Q := rCge f156_48 rfl rfl
theorem x156_51 : Rn S 156 51 [.ref q, v1, v2, v3, v4, v5, v6] st I J Q = Rn S 156 52 [.ref q, v1, v2, v3, v4, v5, v6] (.ref q :: st) I J Q := rL f156_51 rfl rfl
theorem x156_52_65 : Rn (zG xl) 156 52 [v0, v1, v2, v3, v4, v5, v6] (.ref 65 :: st) I J Q = Rn (zG xl) 156 55 [v0, v1, v2, v3, v4, v5, v6] (.ref 74 :: st) I J Q := (rGf f156_52 rfl).trans (tr_and rfl)
theorem x156_55 : Rn S 156 55 [v0, v1, v2, v3, .int a, v5, v6] st I J Q = Rn S 156 57 [v0, v1, v2, v3, .int a, v5, v6] (.int a :: st) I J Q := rL f156_55 rfl rfl
theorem x156_57 : Rn S 156 57 [v0, v1, v2, v3, v4, .int a, v6] st I J Q = Rn S 156 59 [v0, v1, v2, v3, v4, .int a, v6] (.int a :: st) I J Q := rL f156_57 rfl rfl
theorem x156_59 : Rn S 156 59 [v0, v1, v2, v3, v4, v5, v6] st I J Q = Rn S 156 61 [v0, v1, v2, v3, v4, v5, v6] (.int 10 :: st) I J Q := rS f156_59 rfl
theorem x156_61 : Rn S 156 61 [v0, v1, v2, v3, v4, v5, v6] (.int b :: .int a :: st) I J Q = (¬ b = 0 ∧ Rn S 156 62 [v0, v1, v2, v3, v4, v5, v6] (.int (a / b) :: st) I J Q) := rDi f156_61
theorem x156_62 : Rn S 156 62 [v0, v1, v2, v3, v4, v5, v6] (.int b :: .int a :: .ref q :: st) I J Q = (zas S q a ∧ Rn S 156 63 [v0, v1, v2, v3, v4, v5, v6] st (zr I q (upd (I q) a.toNatClampNeg b)) J Q) := rIas f156_62
theorem x156_63 : Rn S 156 63 [.ref q, v1, v2, v3, v4, v5, v6] st I J Q = Rn S 156 64 [.ref q, v1, v2, v3, v4, v5, v6] (.ref q :: st) I J Q := rL f156_63 rfl rfl
theorem x156_64_65 : Rn (zG xl) 156 64 [v0, v1, v2, v3, v4, v5, v6] (.ref 65 :: st) I J Q = Rn (zG xl) 156 67 [v0, v1, v2, v3, v4, v5, v6] (.ref 74 :: st) I J Q := (rGf f156_64 rfl).trans (tr_and rfl)
theorem x156_67 : Rn S 156 67 [v0, v1, v2, v3, .int a, v5, v6] st I J Q = Rn S 156 69 [v0, v1, v2, v3, .int a, v5, v6] (.int a :: st) I J Q := rL f156_67 rfl rfl
theorem x156_69 : Rn S 156 69 [v0, v1, v2, v3, v4, v5, v6] st I J Q = Rn S 156 70 [v0, v1, v2, v3, v4, v5, v6] (.int 1 :: st) I J Q := rS f156_69 rfl
theorem x156_70 : Rn S 156 70 [v0, v1, v2, v3, v4, v5, v6] (.int b :: .int a :: st) I J Q = Rn S 156 71 [v0, v1, v2, v3, v4, v5, v6] (.int (a + b) :: st) I J Q := rS f156_70 rfl
theorem x156_71 : Rn S 156 71 [v0, v1, v2, v3, v4, .int a, v6] st I J Q = Rn S 156 73 [v0, v1, v2, v3, v4, .int a, v6] (.int a :: st) I J Q := rL f156_71 rfl rfl
theorem x156_73 : Rn S 156 73 [v0, v1, v2, v3, v4, v5, v6] st I J Q = Rn S 156 75 [v0, v1, v2, v3, v4, v5, v6] (.int 10 :: st) I J Q := rS f156_73 rfl
theorem x156_75 : Rn S 156 75 [v0, v1, v2, v3, v4, v5, v6] (.int b :: .int a :: st) I J Q = (¬ b = 0 ∧ Rn S 156 76 [v0, v1, v2, v3, v4, v5, v6] (.int (a - a / b * b) :: st) I J Q) := rRi f156_75
theorem x156_76 : Rn S 156 76 [v0, v1, v2, v3, v4, v5, v6] (.int b :: .int a :: .ref q :: st) I J Q = (zas S q a ∧ Rn S 156 77 [v0, v1, v2, v3, v4, v5, v6] st (zr I q (upd (I q) a.toNatClampNeg b)) J Q) := rIas f156_76
theorem x156_77 : Rn S 156 77 [.ref q, v1, v2, v3, v4, v5, v6] st I J Q = Rn S 156 78 [.ref q, v1, v2, v3, v4, v5, v6] (.ref q :: st) I J Q := rL f156_77 rfl rfl
theorem x156_78 : Rn S 156 78 [v0, v1, v2, v3, v4, v5, v6] (.ref q :: st) I J Q = ((zcls S q = 6 ∧ zcs st ≤ 8) ∧ Rn S 140 0 [.ref q, .null] [] I J (fun v I' J' => Rn S 156 81 [v0, v1, v2, v3, v4, v5, v6] (v.toList ++ st) I' J' Q)) := rCV (As := []) f156_78 rfl rfl rfl rfl (Nat.le_of_ble_eq_true rfl)
theorem x156_81 : Rn S 156 81 [.ref q, v1, v2, v3, v4, v5, v6] st I J Q = Rn S 156 82 [.ref q, v1, v2, v3, v4, v5, v6] (.ref q :: st) I J Q := rL f156_81 rfl rfl
theorem x156_82 : Rn S 156 82 [v0, v1, v2, v3, v4, v5, v6] (.ref q :: st) I J Q = ((zcls S q = 6 ∧ zcs st ≤ 8) ∧ Rn S 150 0 [.ref q, .null, .null] [] I J (fun v I' J' => Rn S 156 85 [v0, v1, v2, v3, v4, v5, v6] (v.toList ++ st) I' J' Q)) := rCV (As := []) f156_82 rfl rfl rfl rfl (Nat.le_of_ble_eq_true rfl)
theorem x156_85 : Rn S 156 85 [v0, v1, v2, v3, v4, v5, v6] (.int a :: st) I J Q = Rn S 156 87 [v0, v1, v2, v3, v4, zkl v5, .int a] st I J Q := rL f156_85 rfl rfl
theorem x156_87 : Rn S 156 87 [v0, v1, v2, v3, v4, v5, .int a] st I J Q = Rn S 156 89 [v0, v1, v2, v3, v4, v5, .int a] (.int a :: st) I J Q := rL f156_87 rfl rfl
theorem x156_89 : Rn S 156 89 [v0, v1, v2, .int a, v4, v5, v6] st I J Q = Rn S 156 90 [v0, v1, v2, .int a, v4, v5, v6] (.int a :: st) I J Q := rL f156_89 rfl rfl
theorem x156_90 : Rn S 156 90 [v0, v1, v2, v3, v4, v5, v6] (.int b :: .int a :: st) I J Q = if a < b then Rn S 156 93 [v0, v1, v2, v3, v4, v5, v6] st I J Q else Rn S 156 98 [v0, v1, v2, v3, v4, v5, v6] st I J Q := rCge f156_90 rfl rfl
theorem x156_93 : Rn S 156 93 [v0, v1, v2, v3, v4, .int a, v6] st I J Q = Rn S 156 95 [v0, v1, v2, v3, v4, .int a, v6] (.int a :: st) I J Q := rL f156_93 rfl rfl
theorem x156_95 : Rn S 156 95 [v0, v1, v2, v3, v4, v5, v6] st I J Q = Rn S 156 99 [v0, v1, v2, v3, v4, v5, v6] st I J Q := rB f156_95 rfl rfl rfl
theorem x156_98 : Rn S 156 98 [v0, v1, .int a, v3, v4, v5, v6] st I J Q = Rn S 156 99 [v0, v1, .int a, v3, v4, v5, v6] (.int a :: st) I J Q := rL f156_98 rfl rfl
theorem x156_99 : Rn S 156 99 [v0, v1, v2, v3, v4, v5, v6] (.int a :: st) I J Q = Rn S 156 100 [v0, zkl v1, .int a, v3, v4, v5, v6] st I J Q := rL f156_99 rfl rfl
theorem x156_100 : Rn S 156 100 [v0, v1, v2, v3, v4, v5, .int a] st I J Q = Rn S 156 102 [v0, v1, v2, v3, v4, v5, .int a] (.int a :: st) I J Q := rL f156_100 rfl rfl
theorem x156_102 : Rn S 156 102 [v0, v1, v2, .int a, v4, v5, v6] st I J Q = Rn S 156 103 [v0, v1, v2, .int a, v4, v5, v6] (.int a :: st) I J Q := rL f156_102 rfl rfl
theorem x156_103 : Rn S 156 103 [v0, v1, v2, v3, v4, v5, v6] (.int a1 :: .int a0 :: st) I J Q = (zcs st ≤ 8 ∧ Rn S 101 0 [.int a0, .int a1] [] I J (fun v I' J' => Rn S 156 106 [v0, v1, v2, v3, v4, v5, v6] (v.toList ++ st) I' J' Q)) := rCS (As := [.int a0, .int a1]) f156_103 rfl rfl rfl rfl (Nat.le_of_ble_eq_true rfl)
theorem x156_106 : Rn S 156 106 [v0, v1, v2, v3, v4, v5, v6] (.int a :: st) I J Q = Rn S 156 107 [v0, v1, zkl v2, .int a, v4, v5, v6] st I J Q := rL f156_106 rfl rfl
theorem x156_107 : Rn S 156 107 [v0, v1, v2, v3, v4, .int a, v6] st I J Q = Rn S 156 110 [v0, v1, v2, v3, zkl v4, .int (a + 1), v6] st I J Q := rL f156_107 rfl rfl
theorem x156_110 : Rn S 156 110 [v0, v1, v2, v3, v4, v5, v6] st I J Q = Rn S 156 27 [v0, v1, v2, v3, v4, v5, v6] st I J Q := rB f156_110 rfl rfl rfl
theorem x156_113 : Rn S 156 113 [.ref q, v1, v2, v3, v4, v5, v6] st I J Q = Rn S 156 114 [.ref q, v1, v2, v3, v4, v5, v6] (.ref q :: st) I J Q := rL f156_113 rfl rfl
theorem x156_114i : Rn S 156 114 [v0, v1, v2, v3, v4, v5, v6] (.int a :: st) I J Q = Rn S 156 115 [v0, v1, v2, v3, v4, v5, v6] (.int a :: .int a :: st) I J Q := rS f156_114 rfl
theorem x156_114r : Rn S 156 114 [v0, v1, v2, v3, v4, v5, v6] (.ref q :: st) I J Q = Rn S 156 115 [v0, v1, v2, v3, v4, v5, v6] (.ref q :: .ref q :: st) I J Q := rS f156_114 rfl
theorem x156_115_65 : Rn (zG xl) 156 115 [v0, v1, v2, v3, v4, v5, v6] (.ref 65 :: st) I J Q = Rn (zG xl) 156 118 [v0, v1, v2, v3, v4, v5, v6] (.int (I 65 11) :: st) I J Q := (rGf f156_115 rfl).trans (tr_and rfl)
theorem x156_118 : Rn S 156 118 [v0, v1, v2, v3, v4, v5, v6] st I J Q = Rn S 156 119 [v0, v1, v2, v3, v4, v5, v6] (.int 1 :: st) I J Q := rS f156_118 rfl
theorem x156_119 : Rn S 156 119 [v0, v1, v2, v3, v4, v5, v6] (.int b :: .int a :: st) I J Q = Rn S 156 120 [v0, v1, v2, v3, v4, v5, v6] (.int (a - b) :: st) I J Q := rS f156_119 rfl
theorem x156_120_65 : Rn (zG xl) 156 120 [v0, v1, v2, v3, v4, v5, v6] (.int a :: .ref 65 :: st) I J Q = Rn (zG xl) 156 123 [v0, v1, v2, v3, v4, v5, v6] st (zr I 65 (upd (I 65) 11 a)) J Q := (rPf f156_120 rfl).trans (tr_pf rfl rfl rfl)
theorem x156_123 : Rn S 156 123 [v0, v1, .int a, v3, v4, v5, v6] st I J Q = Rn S 156 124 [v0, v1, .int a, v3, v4, v5, v6] (.int a :: st) I J Q := rL f156_123 rfl rfl
theorem x156_124 : Rn S 156 124 [v0, v1, v2, v3, v4, v5, v6] st I J Q = Rn S 156 125 [v0, v1, v2, v3, v4, v5, v6] (.int (-1) :: st) I J Q := rS f156_124 rfl
theorem x156_125 : Rn S 156 125 [v0, v1, v2, v3, v4, v5, v6] (.int b :: .int a :: st) I J Q = if a = b then Rn S 156 128 [v0, v1, v2, v3, v4, v5, v6] st I J Q else Rn S 156 132 [v0, v1, v2, v3, v4, v5, v6] st I J Q := rCne f156_125 rfl rfl
theorem x156_128 : Rn S 156 128 [v0, v1, v2, v3, v4, v5, v6] st I J Q = Rn S 156 129 [v0, v1, v2, v3, v4, v5, v6] (.int (-1) :: st) I J Q := rS f156_128 rfl
theorem x156_129 : Rn S 156 129 [v0, v1, v2, v3, v4, v5, v6] st I J Q = Rn S 156 156 [v0, v1, v2, v3, v4, v5, v6] st I J Q := rB f156_129 rfl rfl rfl
theorem x156_132 : Rn S 156 132 [v0, .int a, v2, v3, v4, v5, v6] st I J Q = Rn S 156 133 [v0, .int a, v2, v3, v4, v5, v6] (.int a :: st) I J Q := rL f156_132 rfl rfl
theorem x156_133 : Rn S 156 133 [v0, v1, v2, v3, v4, v5, v6] (.int a :: st) I J Q = if a = 0 then Rn S 156 136 [v0, v1, v2, v3, v4, v5, v6] st I J Q else Rn S 156 143 [v0, v1, v2, v3, v4, v5, v6] st I J Q := rIne f156_133 rfl rfl
theorem x156_136 : Rn S 156 136 [v0, v1, .int a, v3, v4, v5, v6] st I J Q = Rn S 156 137 [v0, v1, .int a, v3, v4, v5, v6] (.int a :: st) I J Q := rL f156_136 rfl rfl
theorem x156_137 : Rn S 156 137 [v0, v1, v2, v3, v4, v5, v6] st I J Q = Rn S 156 139 [v0, v1, v2, v3, v4, v5, v6] (.int 10 :: st) I J Q := rS f156_137 rfl
theorem x156_139 : Rn S 156 139 [v0, v1, v2, v3, v4, v5, v6] (.int b :: .int a :: st) I J Q = (¬ b = 0 ∧ Rn S 156 140 [v0, v1, v2, v3, v4, v5, v6] (.int (a / b) :: st) I J Q) := rDi f156_139
theorem x156_140 : Rn S 156 140 [v0, v1, v2, v3, v4, v5, v6] st I J Q = Rn S 156 156 [v0, v1, v2, v3, v4, v5, v6] st I J Q := rB f156_140 rfl rfl rfl
theorem x156_143 : Rn S 156 143 [v0, .int a, v2, v3, v4, v5, v6] st I J Q = Rn S 156 144 [v0, .int a, v2, v3, v4, v5, v6] (.int a :: st) I J Q := rL f156_143 rfl rfl
theorem x156_144 : Rn S 156 144 [v0, v1, v2, v3, v4, v5, v6] st I J Q = Rn S 156 145 [v0, v1, v2, v3, v4, v5, v6] (.int 1 :: st) I J Q := rS f156_144 rfl
theorem x156_145 : Rn S 156 145 [v0, v1, v2, v3, v4, v5, v6] (.int b :: .int a :: st) I J Q = if a = b then Rn S 156 148 [v0, v1, v2, v3, v4, v5, v6] st I J Q else Rn S 156 155 [v0, v1, v2, v3, v4, v5, v6] st I J Q := rCne f156_145 rfl rfl
theorem x156_148 : Rn S 156 148 [v0, v1, .int a, v3, v4, v5, v6] st I J Q = Rn S 156 149 [v0, v1, .int a, v3, v4, v5, v6] (.int a :: st) I J Q := rL f156_148 rfl rfl
theorem x156_149 : Rn S 156 149 [v0, v1, v2, v3, v4, v5, v6] st I J Q = Rn S 156 151 [v0, v1, v2, v3, v4, v5, v6] (.int 10 :: st) I J Q := rS f156_149 rfl
theorem x156_151 : Rn S 156 151 [v0, v1, v2, v3, v4, v5, v6] (.int b :: .int a :: st) I J Q = (¬ b = 0 ∧ Rn S 156 152 [v0, v1, v2, v3, v4, v5, v6] (.int (a - a / b * b) :: st) I J Q) := rRi f156_151
theorem x156_152 : Rn S 156 152 [v0, v1, v2, v3, v4, v5, v6] st I J Q = Rn S 156 156 [v0, v1, v2, v3, v4, v5, v6] st I J Q := rB f156_152 rfl rfl rfl
theorem x156_155 : Rn S 156 155 [v0, v1, v2, .int a, v4, v5, v6] st I J Q = Rn S 156 156 [v0, v1, v2, .int a, v4, v5, v6] (.int a :: st) I J Q := rL f156_155 rfl rfl
theorem x156_156 : Rn S 156 156 [v0, v1, v2, v3, v4, v5, v6] [.int a] I J Q = Q (some (.int a)) I J := rR f156_156 rfl rfl rfl rfl rfl
/-! X6.more: 157 -/
theorem B157 : zB 157 = cX6_more := rfl
theorem f157_0 : zft 157 0 = some (.aload_n 0, 1) := fet B157 (by decide +kernel) (Or.inr rfl)
theorem f157_1 : zft 157 1 = some (.invokevirtual 205, 3) := fet B157 (by decide +kernel) (Or.inr rfl)
theorem f157_4 : zft 157 4 = some (.iload_n 1, 1) := fet B157 (by decide +kernel) (Or.inr rfl)
theorem f157_5 : zft 157 5 = some (.i2l, 1) := fet B157 (by decide +kernel) (Or.inr rfl)
theorem f157_6 : zft 157 6 = some (.lconst 0, 1) := fet B157 (by decide +kernel) (Or.inr rfl)
theorem f157_7 : zft 157 7 = some (.ldc2_w 99, 3) := fet B157 (by decide +kernel) (Or.inr rfl)
theorem f157_10 : zft 157 10 = some (.invokestatic 86, 3) := fet B157 (by decide +kernel) (Or.inr rfl)
theorem f157_13 : zft 157 13 = some (.ifCond .eq 11, 3) := fet B157 (by decide +kernel) (Or.inr rfl)
theorem f157_16 : zft 157 16 = some (.aload_n 0, 1) := fet B157 (by decide +kernel) (Or.inr rfl)
theorem f157_17 : zft 157 17 = some (.iload_n 1, 1) := fet B157 (by decide +kernel) (Or.inr rfl)
theorem f157_18 : zft 157 18 = some (.invokevirtual 235, 3) := fet B157 (by decide +kernel) (Or.inr rfl)
theorem f157_21 : zft 157 21 = some (.goto 5, 3) := fet B157 (by decide +kernel) (Or.inr rfl)
theorem f157_24 : zft 157 24 = some (.bipush (-2), 2) := fet B157 (by decide +kernel) (Or.inr rfl)
theorem f157_26 : zft 157 26 = some (.ireturn, 1) := fet B157 (by decide +kernel) (Or.inr rfl)
theorem x157_0 : Rn S 157 0 [.ref q, v1] st I J Q = Rn S 157 1 [.ref q, v1] (.ref q :: st) I J Q := rL f157_0 rfl rfl
theorem x157_1 : Rn S 157 1 [v0, v1] (.ref q :: st) I J Q = ((zcls S q = 6 ∧ zcs st ≤ 8) ∧ Rn S 141 0 [.ref q] [] I J (fun v I' J' => Rn S 157 4 [v0, v1] (v.toList ++ st) I' J' Q)) := rCV (As := []) f157_1 rfl rfl rfl rfl (Nat.le_of_ble_eq_true rfl)
theorem x157_4 : Rn S 157 4 [v0, .int a] st I J Q = Rn S 157 5 [v0, .int a] (.int a :: st) I J Q := rL f157_4 rfl rfl
theorem x157_5 : Rn S 157 5 [v0, v1] (.int a :: st) I J Q = Rn S 157 6 [v0, v1] (.long a.toInt64 :: st) I J Q := rS f157_5 rfl
theorem x157_6 : Rn S 157 6 [v0, v1] st I J Q = Rn S 157 7 [v0, v1] (.long 0 :: st) I J Q := rS f157_6 rfl
theorem x157_7 : Rn S 157 7 [v0, v1] st I J Q = Rn S 157 10 [v0, v1] (.long 2 :: st) I J Q := rS f157_7 rfl
theorem x157_10 : Rn S 157 10 [v0, v1] (.long u2 :: .long u1 :: .long u0 :: st) I J Q = (zcs st ≤ 8 ∧ Rn S 96 0 [.long u0, .null, .long u1, .null, .long u2, .null] [] I J (fun v I' J' => Rn S 157 13 [v0, v1] (v.toList ++ st) I' J' Q)) := rCS (As := [.long u0, .long u1, .long u2]) f157_10 rfl rfl rfl rfl (Nat.le_of_ble_eq_true rfl)
theorem x157_13 : Rn S 157 13 [v0, v1] (.int a :: st) I J Q = if a = 0 then Rn S 157 24 [v0, v1] st I J Q else Rn S 157 16 [v0, v1] st I J Q := rIeq f157_13 rfl rfl
theorem x157_16 : Rn S 157 16 [.ref q, v1] st I J Q = Rn S 157 17 [.ref q, v1] (.ref q :: st) I J Q := rL f157_16 rfl rfl
theorem x157_17 : Rn S 157 17 [v0, .int a] st I J Q = Rn S 157 18 [v0, .int a] (.int a :: st) I J Q := rL f157_17 rfl rfl
theorem x157_18 : Rn S 157 18 [v0, v1] (.int a0 :: .ref q :: st) I J Q = ((zcls S q = 6 ∧ zcs st ≤ 8) ∧ Rn S 156 0 [.ref q, .int a0, .null, .null, .null, .null, .null] [] I J (fun v I' J' => Rn S 157 21 [v0, v1] (v.toList ++ st) I' J' Q)) := rCV (As := [.int a0]) f157_18 rfl rfl rfl rfl (Nat.le_of_ble_eq_true rfl)
theorem x157_21 : Rn S 157 21 [v0, v1] st I J Q = Rn S 157 26 [v0, v1] st I J Q := rB f157_21 rfl rfl rfl
theorem x157_24 : Rn S 157 24 [v0, v1] st I J Q = Rn S 157 26 [v0, v1] (.int (-2) :: st) I J Q := rS f157_24 rfl
theorem x157_26 : Rn S 157 26 [v0, v1] [.int a] I J Q = Q (some (.int a)) I J := rR f157_26 rfl rfl rfl rfl rfl
/-! X6.lateNow: 158 -/
theorem B158 : zB 158 = cX6_lateNow := rfl
theorem f158_0 : zft 158 0 = some (.aload_n 0, 1) := fet B158 (by decide +kernel) (Or.inr rfl)
theorem f158_1 : zft 158 1 = some (.getfield 80, 3) := fet B158 (by decide +kernel) (Or.inr rfl)
theorem f158_4 : zft 158 4 = some (.istore_n 1, 1) := fet B158 (by decide +kernel) (Or.inr rfl)
theorem f158_5 : zft 158 5 = some (.iconst (-1), 1) := fet B158 (by decide +kernel) (Or.inr rfl)
theorem f158_6 : zft 158 6 = some (.istore_n 2, 1) := fet B158 (by decide +kernel) (Or.inr rfl)
theorem f158_7 : zft 158 7 = some (.bipush 24, 2) := fet B158 (by decide +kernel) (Or.inr rfl)
theorem f158_9 : zft 158 9 = some (.istore_n 3, 1) := fet B158 (by decide +kernel) (Or.inr rfl)
theorem f158_10 : zft 158 10 = some (.iload_n 3, 1) := fet B158 (by decide +kernel) (Or.inr rfl)
theorem f158_11 : zft 158 11 = some (.ifCond .le 31, 3) := fet B158 (by decide +kernel) (Or.inr rfl)
theorem f158_14 : zft 158 14 = some (.aload_n 0, 1) := fet B158 (by decide +kernel) (Or.inr rfl)
theorem f158_15 : zft 158 15 = some (.iload_n 3, 1) := fet B158 (by decide +kernel) (Or.inr rfl)
theorem f158_16 : zft 158 16 = some (.putfield 80, 3) := fet B158 (by decide +kernel) (Or.inr rfl)
theorem f158_19 : zft 158 19 = some (.aload_n 0, 1) := fet B158 (by decide +kernel) (Or.inr rfl)
theorem f158_20 : zft 158 20 = some (.invokevirtual 202, 3) := fet B158 (by decide +kernel) (Or.inr rfl)
theorem f158_23 : zft 158 23 = some (.aload_n 0, 1) := fet B158 (by decide +kernel) (Or.inr rfl)
theorem f158_24 : zft 158 24 = some (.invokevirtual 223, 3) := fet B158 (by decide +kernel) (Or.inr rfl)
theorem f158_27 : zft 158 27 = some (.ifCond .ne 7, 3) := fet B158 (by decide +kernel) (Or.inr rfl)
theorem f158_30 : zft 158 30 = some (.iload_n 3, 1) := fet B158 (by decide +kernel) (Or.inr rfl)
theorem f158_31 : zft 158 31 = some (.goto 4, 3) := fet B158 (by decide +kernel) (Or.inr rfl)
theorem f158_34 : zft 158 34 = some (.iload_n 2, 1) := fet B158 (by decide +kernel) (Or.inr rfl)
theorem f158_35 : zft 158 35 = some (.istore_n 2, 1) := fet B158 (by decide +kernel) (Or.inr rfl)
theorem f158_36 : zft 158 36 = some (.iinc 3 (-1), 3) := fet B158 (by decide +kernel) (Or.inr rfl)
theorem f158_39 : zft 158 39 = some (.goto (-29), 3) := fet B158 (by decide +kernel) (Or.inr rfl)
theorem f158_42 : zft 158 42 = some (.aload_n 0, 1) := fet B158 (by decide +kernel) (Or.inr rfl)
theorem f158_43 : zft 158 43 = some (.iload_n 1, 1) := fet B158 (by decide +kernel) (Or.inr rfl)
theorem f158_44 : zft 158 44 = some (.putfield 80, 3) := fet B158 (by decide +kernel) (Or.inr rfl)
theorem f158_47 : zft 158 47 = some (.iload_n 2, 1) := fet B158 (by decide +kernel) (Or.inr rfl)
theorem f158_48 : zft 158 48 = some (.ireturn, 1) := fet B158 (by decide +kernel) (Or.inr rfl)
theorem x158_0 : Rn S 158 0 [.ref q, v1, v2, v3] st I J Q = Rn S 158 1 [.ref q, v1, v2, v3] (.ref q :: st) I J Q := rL f158_0 rfl rfl
theorem x158_1_65 : Rn (zG xl) 158 1 [v0, v1, v2, v3] (.ref 65 :: st) I J Q = Rn (zG xl) 158 4 [v0, v1, v2, v3] (.int (I 65 13) :: st) I J Q := (rGf f158_1 rfl).trans (tr_and rfl)
theorem x158_4 : Rn S 158 4 [v0, v1, v2, v3] (.int a :: st) I J Q = Rn S 158 5 [zkl v0, .int a, v2, v3] st I J Q := rL f158_4 rfl rfl
theorem x158_5 : Rn S 158 5 [v0, v1, v2, v3] st I J Q = Rn S 158 6 [v0, v1, v2, v3] (.int (-1) :: st) I J Q := rS f158_5 rfl
theorem x158_6 : Rn S 158 6 [v0, v1, v2, v3] (.int a :: st) I J Q = Rn S 158 7 [v0, zkl v1, .int a, v3] st I J Q := rL f158_6 rfl rfl
theorem x158_7 : Rn S 158 7 [v0, v1, v2, v3] st I J Q = Rn S 158 9 [v0, v1, v2, v3] (.int 24 :: st) I J Q := rS f158_7 rfl
theorem x158_9 : Rn S 158 9 [v0, v1, v2, v3] (.int a :: st) I J Q = Rn S 158 10 [v0, v1, zkl v2, .int a] st I J Q := rL f158_9 rfl rfl
theorem h158_10 : Rn S 158 10 [v0, v1, v2, .int a] st I J Q = Rn S 158 11 [v0, v1, v2, .int a] (.int a :: st) I J Q := rL f158_10 rfl rfl
theorem x158_11 : Rn S 158 11 [v0, v1, v2, v3] (.int a :: st) I J Q = if 0 < a then Rn S 158 14 [v0, v1, v2, v3] st I J Q else Rn S 158 42 [v0, v1, v2, v3] st I J Q := rIle f158_11 rfl rfl
theorem x158_14 : Rn S 158 14 [.ref q, v1, v2, v3] st I J Q = Rn S 158 15 [.ref q, v1, v2, v3] (.ref q :: st) I J Q := rL f158_14 rfl rfl
theorem x158_15 : Rn S 158 15 [v0, v1, v2, .int a] st I J Q = Rn S 158 16 [v0, v1, v2, .int a] (.int a :: st) I J Q := rL f158_15 rfl rfl
theorem x158_16_65 : Rn (zG xl) 158 16 [v0, v1, v2, v3] (.int a :: .ref 65 :: st) I J Q = Rn (zG xl) 158 19 [v0, v1, v2, v3] st (zr I 65 (upd (I 65) 13 a)) J Q := (rPf f158_16 rfl).trans (tr_pf rfl rfl rfl)
theorem x158_19 : Rn S 158 19 [.ref q, v1, v2, v3] st I J Q = Rn S 158 20 [.ref q, v1, v2, v3] (.ref q :: st) I J Q := rL f158_19 rfl rfl
theorem x158_20 : Rn S 158 20 [v0, v1, v2, v3] (.ref q :: st) I J Q = ((zcls S q = 6 ∧ zcs st ≤ 8) ∧ Rn S 140 0 [.ref q, .null] [] I J (fun v I' J' => Rn S 158 23 [v0, v1, v2, v3] (v.toList ++ st) I' J' Q)) := rCV (As := []) f158_20 rfl rfl rfl rfl (Nat.le_of_ble_eq_true rfl)
theorem x158_23 : Rn S 158 23 [.ref q, v1, v2, v3] st I J Q = Rn S 158 24 [.ref q, v1, v2, v3] (.ref q :: st) I J Q := rL f158_23 rfl rfl
theorem x158_24 : Rn S 158 24 [v0, v1, v2, v3] (.ref q :: st) I J Q = ((zcls S q = 6 ∧ zcs st ≤ 8) ∧ Rn S 150 0 [.ref q, .null, .null] [] I J (fun v I' J' => Rn S 158 27 [v0, v1, v2, v3] (v.toList ++ st) I' J' Q)) := rCV (As := []) f158_24 rfl rfl rfl rfl (Nat.le_of_ble_eq_true rfl)
theorem x158_27 : Rn S 158 27 [v0, v1, v2, v3] (.int a :: st) I J Q = if a = 0 then Rn S 158 30 [v0, v1, v2, v3] st I J Q else Rn S 158 34 [v0, v1, v2, v3] st I J Q := rIne f158_27 rfl rfl
theorem x158_30 : Rn S 158 30 [v0, v1, v2, .int a] st I J Q = Rn S 158 31 [v0, v1, v2, .int a] (.int a :: st) I J Q := rL f158_30 rfl rfl
theorem x158_31 : Rn S 158 31 [v0, v1, v2, v3] st I J Q = Rn S 158 35 [v0, v1, v2, v3] st I J Q := rB f158_31 rfl rfl rfl
theorem x158_34 : Rn S 158 34 [v0, v1, .int a, v3] st I J Q = Rn S 158 35 [v0, v1, .int a, v3] (.int a :: st) I J Q := rL f158_34 rfl rfl
theorem x158_35 : Rn S 158 35 [v0, v1, v2, v3] (.int a :: st) I J Q = Rn S 158 36 [v0, zkl v1, .int a, v3] st I J Q := rL f158_35 rfl rfl
theorem x158_36 : Rn S 158 36 [v0, v1, v2, .int a] st I J Q = Rn S 158 39 [v0, v1, zkl v2, .int (a + (-1))] st I J Q := rL f158_36 rfl rfl
theorem x158_39 : Rn S 158 39 [v0, v1, v2, v3] st I J Q = Rn S 158 10 [v0, v1, v2, v3] st I J Q := rB f158_39 rfl rfl rfl
theorem x158_42 : Rn S 158 42 [.ref q, v1, v2, v3] st I J Q = Rn S 158 43 [.ref q, v1, v2, v3] (.ref q :: st) I J Q := rL f158_42 rfl rfl
theorem x158_43 : Rn S 158 43 [v0, .int a, v2, v3] st I J Q = Rn S 158 44 [v0, .int a, v2, v3] (.int a :: st) I J Q := rL f158_43 rfl rfl
theorem x158_44_65 : Rn (zG xl) 158 44 [v0, v1, v2, v3] (.int a :: .ref 65 :: st) I J Q = Rn (zG xl) 158 47 [v0, v1, v2, v3] st (zr I 65 (upd (I 65) 13 a)) J Q := (rPf f158_44 rfl).trans (tr_pf rfl rfl rfl)
theorem x158_47 : Rn S 158 47 [v0, v1, .int a, v3] st I J Q = Rn S 158 48 [v0, v1, .int a, v3] (.int a :: st) I J Q := rL f158_47 rfl rfl
theorem x158_48 : Rn S 158 48 [v0, v1, v2, v3] [.int a] I J Q = Q (some (.int a)) I J := rR f158_48 rfl rfl rfl rfl rfl
/-! X6.late: 159 -/
theorem B159 : zB 159 = cX6_late := rfl
theorem f159_0 : zft 159 0 = some (.aload_n 0, 1) := fet B159 (by decide +kernel) (Or.inr rfl)
theorem f159_1 : zft 159 1 = some (.invokevirtual 205, 3) := fet B159 (by decide +kernel) (Or.inr rfl)
theorem f159_4 : zft 159 4 = some (.aload_n 0, 1) := fet B159 (by decide +kernel) (Or.inr rfl)
theorem f159_5 : zft 159 5 = some (.invokevirtual 238, 3) := fet B159 (by decide +kernel) (Or.inr rfl)
theorem f159_8 : zft 159 8 = some (.ireturn, 1) := fet B159 (by decide +kernel) (Or.inr rfl)
theorem x159_0 : Rn S 159 0 [.ref q] st I J Q = Rn S 159 1 [.ref q] (.ref q :: st) I J Q := rL f159_0 rfl rfl
theorem x159_1 : Rn S 159 1 [v0] (.ref q :: st) I J Q = ((zcls S q = 6 ∧ zcs st ≤ 8) ∧ Rn S 141 0 [.ref q] [] I J (fun v I' J' => Rn S 159 4 [v0] (v.toList ++ st) I' J' Q)) := rCV (As := []) f159_1 rfl rfl rfl rfl (Nat.le_of_ble_eq_true rfl)
theorem x159_4 : Rn S 159 4 [.ref q] st I J Q = Rn S 159 5 [.ref q] (.ref q :: st) I J Q := rL f159_4 rfl rfl
theorem x159_5 : Rn S 159 5 [v0] (.ref q :: st) I J Q = ((zcls S q = 6 ∧ zcs st ≤ 8) ∧ Rn S 158 0 [.ref q, .null, .null, .null] [] I J (fun v I' J' => Rn S 159 8 [v0] (v.toList ++ st) I' J' Q)) := rCV (As := []) f159_5 rfl rfl rfl rfl (Nat.le_of_ble_eq_true rfl)
theorem x159_8 : Rn S 159 8 [v0] [.int a] I J Q = Q (some (.int a)) I J := rR f159_8 rfl rfl rfl rfl rfl
/-! X6.places: 160 -/
theorem B160 : zB 160 = cX6_places := rfl
theorem f160_0 : zft 160 0 = some (.iconst 0, 1) := fet B160 (by decide +kernel) (Or.inr rfl)
theorem f160_1 : zft 160 1 = some (.istore_n 3, 1) := fet B160 (by decide +kernel) (Or.inr rfl)
theorem f160_2 : zft 160 2 = some (.iload_n 3, 1) := fet B160 (by decide +kernel) (Or.inr rfl)
theorem f160_3 : zft 160 3 = some (.iconst 2, 1) := fet B160 (by decide +kernel) (Or.inr rfl)
theorem f160_4 : zft 160 4 = some (.if_icmp .ge 53, 3) := fet B160 (by decide +kernel) (Or.inr rfl)
theorem f160_7 : zft 160 7 = some (.aload_n 0, 1) := fet B160 (by decide +kernel) (Or.inr rfl)
theorem f160_8 : zft 160 8 = some (.getfield 34, 3) := fet B160 (by decide +kernel) (Or.inr rfl)
theorem f160_11 : zft 160 11 = some (.iconst 2, 1) := fet B160 (by decide +kernel) (Or.inr rfl)
theorem f160_12 : zft 160 12 = some (.iload_n 1, 1) := fet B160 (by decide +kernel) (Or.inr rfl)
theorem f160_13 : zft 160 13 = some (.imul, 1) := fet B160 (by decide +kernel) (Or.inr rfl)
theorem f160_14 : zft 160 14 = some (.iload_n 3, 1) := fet B160 (by decide +kernel) (Or.inr rfl)
theorem f160_15 : zft 160 15 = some (.iadd, 1) := fet B160 (by decide +kernel) (Or.inr rfl)
theorem f160_16 : zft 160 16 = some (.iaload, 1) := fet B160 (by decide +kernel) (Or.inr rfl)
theorem f160_17 : zft 160 17 = some (.istore 4, 2) := fet B160 (by decide +kernel) (Or.inr rfl)
theorem f160_19 : zft 160 19 = some (.aload_n 0, 1) := fet B160 (by decide +kernel) (Or.inr rfl)
theorem f160_20 : zft 160 20 = some (.getfield 34, 3) := fet B160 (by decide +kernel) (Or.inr rfl)
theorem f160_23 : zft 160 23 = some (.iconst 2, 1) := fet B160 (by decide +kernel) (Or.inr rfl)
theorem f160_24 : zft 160 24 = some (.iload_n 1, 1) := fet B160 (by decide +kernel) (Or.inr rfl)
theorem f160_25 : zft 160 25 = some (.imul, 1) := fet B160 (by decide +kernel) (Or.inr rfl)
theorem f160_26 : zft 160 26 = some (.iload_n 3, 1) := fet B160 (by decide +kernel) (Or.inr rfl)
theorem f160_27 : zft 160 27 = some (.iadd, 1) := fet B160 (by decide +kernel) (Or.inr rfl)
theorem f160_28 : zft 160 28 = some (.aload_n 0, 1) := fet B160 (by decide +kernel) (Or.inr rfl)
theorem f160_29 : zft 160 29 = some (.getfield 34, 3) := fet B160 (by decide +kernel) (Or.inr rfl)
theorem f160_32 : zft 160 32 = some (.iconst 2, 1) := fet B160 (by decide +kernel) (Or.inr rfl)
theorem f160_33 : zft 160 33 = some (.iload_n 2, 1) := fet B160 (by decide +kernel) (Or.inr rfl)
theorem f160_34 : zft 160 34 = some (.imul, 1) := fet B160 (by decide +kernel) (Or.inr rfl)
theorem f160_35 : zft 160 35 = some (.iload_n 3, 1) := fet B160 (by decide +kernel) (Or.inr rfl)
theorem f160_36 : zft 160 36 = some (.iadd, 1) := fet B160 (by decide +kernel) (Or.inr rfl)
theorem f160_37 : zft 160 37 = some (.iaload, 1) := fet B160 (by decide +kernel) (Or.inr rfl)
theorem f160_38 : zft 160 38 = some (.iastore, 1) := fet B160 (by decide +kernel) (Or.inr rfl)
theorem f160_39 : zft 160 39 = some (.aload_n 0, 1) := fet B160 (by decide +kernel) (Or.inr rfl)
theorem f160_40 : zft 160 40 = some (.getfield 34, 3) := fet B160 (by decide +kernel) (Or.inr rfl)
theorem f160_43 : zft 160 43 = some (.iconst 2, 1) := fet B160 (by decide +kernel) (Or.inr rfl)
theorem f160_44 : zft 160 44 = some (.iload_n 2, 1) := fet B160 (by decide +kernel) (Or.inr rfl)
theorem f160_45 : zft 160 45 = some (.imul, 1) := fet B160 (by decide +kernel) (Or.inr rfl)
theorem f160_46 : zft 160 46 = some (.iload_n 3, 1) := fet B160 (by decide +kernel) (Or.inr rfl)
theorem f160_47 : zft 160 47 = some (.iadd, 1) := fet B160 (by decide +kernel) (Or.inr rfl)
theorem f160_48 : zft 160 48 = some (.iload 4, 2) := fet B160 (by decide +kernel) (Or.inr rfl)
theorem f160_50 : zft 160 50 = some (.iastore, 1) := fet B160 (by decide +kernel) (Or.inr rfl)
theorem f160_51 : zft 160 51 = some (.iinc 3 1, 3) := fet B160 (by decide +kernel) (Or.inr rfl)
theorem f160_54 : zft 160 54 = some (.goto (-52), 3) := fet B160 (by decide +kernel) (Or.inr rfl)
theorem f160_57 : zft 160 57 = some (.return_, 1) := fet B160 (by decide +kernel) (Or.inr rfl)
theorem x160_0 : Rn S 160 0 [v0, v1, v2, v3, v4] st I J Q = Rn S 160 1 [v0, v1, v2, v3, v4] (.int 0 :: st) I J Q := rS f160_0 rfl
theorem x160_1 : Rn S 160 1 [v0, v1, v2, v3, v4] (.int a :: st) I J Q = Rn S 160 2 [v0, v1, zkl v2, .int a, v4] st I J Q := rL f160_1 rfl rfl
theorem h160_2 : Rn S 160 2 [v0, v1, v2, .int a, v4] st I J Q = Rn S 160 3 [v0, v1, v2, .int a, v4] (.int a :: st) I J Q := rL f160_2 rfl rfl
theorem x160_3 : Rn S 160 3 [v0, v1, v2, v3, v4] st I J Q = Rn S 160 4 [v0, v1, v2, v3, v4] (.int 2 :: st) I J Q := rS f160_3 rfl
theorem x160_4 : Rn S 160 4 [v0, v1, v2, v3, v4] (.int b :: .int a :: st) I J Q = if a < b then Rn S 160 7 [v0, v1, v2, v3, v4] st I J Q else Rn S 160 57 [v0, v1, v2, v3, v4] st I J Q := rCge f160_4 rfl rfl
theorem x160_7 : Rn S 160 7 [.ref q, v1, v2, v3, v4] st I J Q = Rn S 160 8 [.ref q, v1, v2, v3, v4] (.ref q :: st) I J Q := rL f160_7 rfl rfl
theorem x160_8_65 : Rn (zG xl) 160 8 [v0, v1, v2, v3, v4] (.ref 65 :: st) I J Q = Rn (zG xl) 160 11 [v0, v1, v2, v3, v4] (.ref 74 :: st) I J Q := (rGf f160_8 rfl).trans (tr_and rfl)
theorem x160_11 : Rn S 160 11 [v0, v1, v2, v3, v4] st I J Q = Rn S 160 12 [v0, v1, v2, v3, v4] (.int 2 :: st) I J Q := rS f160_11 rfl
theorem x160_12 : Rn S 160 12 [v0, .int a, v2, v3, v4] st I J Q = Rn S 160 13 [v0, .int a, v2, v3, v4] (.int a :: st) I J Q := rL f160_12 rfl rfl
theorem x160_13 : Rn S 160 13 [v0, v1, v2, v3, v4] (.int b :: .int a :: st) I J Q = Rn S 160 14 [v0, v1, v2, v3, v4] (.int (a * b) :: st) I J Q := rS f160_13 rfl
theorem x160_14 : Rn S 160 14 [v0, v1, v2, .int a, v4] st I J Q = Rn S 160 15 [v0, v1, v2, .int a, v4] (.int a :: st) I J Q := rL f160_14 rfl rfl
theorem x160_15 : Rn S 160 15 [v0, v1, v2, v3, v4] (.int b :: .int a :: st) I J Q = Rn S 160 16 [v0, v1, v2, v3, v4] (.int (a + b) :: st) I J Q := rS f160_15 rfl
theorem x160_16 : Rn S 160 16 [v0, v1, v2, v3, v4] (.int a :: .ref q :: st) I J Q = (zai S q a ∧ Rn S 160 17 [v0, v1, v2, v3, v4] (.int (I q a.toNatClampNeg) :: st) I J Q) := rIal f160_16
theorem x160_17 : Rn S 160 17 [v0, v1, v2, v3, v4] (.int a :: st) I J Q = Rn S 160 19 [v0, v1, v2, zkl v3, .int a] st I J Q := rL f160_17 rfl rfl
theorem x160_19 : Rn S 160 19 [.ref q, v1, v2, v3, v4] st I J Q = Rn S 160 20 [.ref q, v1, v2, v3, v4] (.ref q :: st) I J Q := rL f160_19 rfl rfl
theorem x160_20_65 : Rn (zG xl) 160 20 [v0, v1, v2, v3, v4] (.ref 65 :: st) I J Q = Rn (zG xl) 160 23 [v0, v1, v2, v3, v4] (.ref 74 :: st) I J Q := (rGf f160_20 rfl).trans (tr_and rfl)
theorem x160_23 : Rn S 160 23 [v0, v1, v2, v3, v4] st I J Q = Rn S 160 24 [v0, v1, v2, v3, v4] (.int 2 :: st) I J Q := rS f160_23 rfl
theorem x160_24 : Rn S 160 24 [v0, .int a, v2, v3, v4] st I J Q = Rn S 160 25 [v0, .int a, v2, v3, v4] (.int a :: st) I J Q := rL f160_24 rfl rfl
theorem x160_25 : Rn S 160 25 [v0, v1, v2, v3, v4] (.int b :: .int a :: st) I J Q = Rn S 160 26 [v0, v1, v2, v3, v4] (.int (a * b) :: st) I J Q := rS f160_25 rfl
theorem x160_26 : Rn S 160 26 [v0, v1, v2, .int a, v4] st I J Q = Rn S 160 27 [v0, v1, v2, .int a, v4] (.int a :: st) I J Q := rL f160_26 rfl rfl
theorem x160_27 : Rn S 160 27 [v0, v1, v2, v3, v4] (.int b :: .int a :: st) I J Q = Rn S 160 28 [v0, v1, v2, v3, v4] (.int (a + b) :: st) I J Q := rS f160_27 rfl
theorem x160_28 : Rn S 160 28 [.ref q, v1, v2, v3, v4] st I J Q = Rn S 160 29 [.ref q, v1, v2, v3, v4] (.ref q :: st) I J Q := rL f160_28 rfl rfl
theorem x160_29_65 : Rn (zG xl) 160 29 [v0, v1, v2, v3, v4] (.ref 65 :: st) I J Q = Rn (zG xl) 160 32 [v0, v1, v2, v3, v4] (.ref 74 :: st) I J Q := (rGf f160_29 rfl).trans (tr_and rfl)
theorem x160_32 : Rn S 160 32 [v0, v1, v2, v3, v4] st I J Q = Rn S 160 33 [v0, v1, v2, v3, v4] (.int 2 :: st) I J Q := rS f160_32 rfl
theorem x160_33 : Rn S 160 33 [v0, v1, .int a, v3, v4] st I J Q = Rn S 160 34 [v0, v1, .int a, v3, v4] (.int a :: st) I J Q := rL f160_33 rfl rfl
theorem x160_34 : Rn S 160 34 [v0, v1, v2, v3, v4] (.int b :: .int a :: st) I J Q = Rn S 160 35 [v0, v1, v2, v3, v4] (.int (a * b) :: st) I J Q := rS f160_34 rfl
theorem x160_35 : Rn S 160 35 [v0, v1, v2, .int a, v4] st I J Q = Rn S 160 36 [v0, v1, v2, .int a, v4] (.int a :: st) I J Q := rL f160_35 rfl rfl
theorem x160_36 : Rn S 160 36 [v0, v1, v2, v3, v4] (.int b :: .int a :: st) I J Q = Rn S 160 37 [v0, v1, v2, v3, v4] (.int (a + b) :: st) I J Q := rS f160_36 rfl
theorem x160_37 : Rn S 160 37 [v0, v1, v2, v3, v4] (.int a :: .ref q :: st) I J Q = (zai S q a ∧ Rn S 160 38 [v0, v1, v2, v3, v4] (.int (I q a.toNatClampNeg) :: st) I J Q) := rIal f160_37
theorem x160_38 : Rn S 160 38 [v0, v1, v2, v3, v4] (.int b :: .int a :: .ref q :: st) I J Q = (zas S q a ∧ Rn S 160 39 [v0, v1, v2, v3, v4] st (zr I q (upd (I q) a.toNatClampNeg b)) J Q) := rIas f160_38
theorem x160_39 : Rn S 160 39 [.ref q, v1, v2, v3, v4] st I J Q = Rn S 160 40 [.ref q, v1, v2, v3, v4] (.ref q :: st) I J Q := rL f160_39 rfl rfl
theorem x160_40_65 : Rn (zG xl) 160 40 [v0, v1, v2, v3, v4] (.ref 65 :: st) I J Q = Rn (zG xl) 160 43 [v0, v1, v2, v3, v4] (.ref 74 :: st) I J Q := (rGf f160_40 rfl).trans (tr_and rfl)
theorem x160_43 : Rn S 160 43 [v0, v1, v2, v3, v4] st I J Q = Rn S 160 44 [v0, v1, v2, v3, v4] (.int 2 :: st) I J Q := rS f160_43 rfl
theorem x160_44 : Rn S 160 44 [v0, v1, .int a, v3, v4] st I J Q = Rn S 160 45 [v0, v1, .int a, v3, v4] (.int a :: st) I J Q := rL f160_44 rfl rfl
theorem x160_45 : Rn S 160 45 [v0, v1, v2, v3, v4] (.int b :: .int a :: st) I J Q = Rn S 160 46 [v0, v1, v2, v3, v4] (.int (a * b) :: st) I J Q := rS f160_45 rfl
theorem x160_46 : Rn S 160 46 [v0, v1, v2, .int a, v4] st I J Q = Rn S 160 47 [v0, v1, v2, .int a, v4] (.int a :: st) I J Q := rL f160_46 rfl rfl
theorem x160_47 : Rn S 160 47 [v0, v1, v2, v3, v4] (.int b :: .int a :: st) I J Q = Rn S 160 48 [v0, v1, v2, v3, v4] (.int (a + b) :: st) I J Q := rS f160_47 rfl
theorem x160_48 : Rn S 160 48 [v0, v1, v2, v3, .int a] st I J Q = Rn S 160 50 [v0, v1, v2, v3, .int a] (.int a :: st) I J Q := rL f160_48 rfl rfl
theorem x160_50 : Rn S 160 50 [v0, v1, v2, v3, v4] (.int b :: .int a :: .ref q :: st) I J Q = (zas S q a ∧ Rn S 160 51 [v0, v1, v2, v3, v4] st (zr I q (upd (I q) a.toNatClampNeg b)) J Q) := rIas f160_50
theorem x160_51 : Rn S 160 51 [v0, v1, v2, .int a, v4] st I J Q = Rn S 160 54 [v0, v1, zkl v2, .int (a + 1), v4] st I J Q := rL f160_51 rfl rfl
theorem x160_54 : Rn S 160 54 [v0, v1, v2, v3, v4] st I J Q = Rn S 160 2 [v0, v1, v2, v3, v4] st I J Q := rB f160_54 rfl rfl rfl
theorem x160_57 : Rn S 160 57 [v0, v1, v2, v3, v4] [] I J Q = Q none I J := rR f160_57 rfl rfl rfl rfl rfl
/-! X6.turnBy: 161 -/
theorem B161 : zB 161 = cX6_turnBy := rfl
theorem f161_0 : zft 161 0 = some (.iconst (-1), 1) := fet B161 (by decide +kernel) (Or.inr rfl)
theorem f161_1 : zft 161 1 = some (.istore_n 2, 1) := fet B161 (by decide +kernel) (Or.inr rfl)
theorem f161_2 : zft 161 2 = some (.sipush 999, 3) := fet B161 (by decide +kernel) (Or.inr rfl)
theorem f161_5 : zft 161 5 = some (.istore_n 3, 1) := fet B161 (by decide +kernel) (Or.inr rfl)
theorem f161_6 : zft 161 6 = some (.iconst 0, 1) := fet B161 (by decide +kernel) (Or.inr rfl)
theorem f161_7 : zft 161 7 = some (.istore 4, 2) := fet B161 (by decide +kernel) (Or.inr rfl)
theorem f161_9 : zft 161 9 = some (.iload 4, 2) := fet B161 (by decide +kernel) (Or.inr rfl)
theorem f161_11 : zft 161 11 = some (.aload_n 0, 1) := fet B161 (by decide +kernel) (Or.inr rfl)
theorem f161_12 : zft 161 12 = some (.getfield 134, 3) := fet B161 (by decide +kernel) (Or.inr rfl)
theorem f161_15 : zft 161 15 = some (.if_icmp .ge 82, 3) := fet B161 (by decide +kernel) (Or.inr rfl)
theorem f161_18 : zft 161 18 = some (.iload 4, 2) := fet B161 (by decide +kernel) (Or.inr rfl)
theorem f161_20 : zft 161 20 = some (.iconst 1, 1) := fet B161 (by decide +kernel) (Or.inr rfl)
theorem f161_21 : zft 161 21 = some (.iadd, 1) := fet B161 (by decide +kernel) (Or.inr rfl)
theorem f161_22 : zft 161 22 = some (.istore 5, 2) := fet B161 (by decide +kernel) (Or.inr rfl)
theorem f161_24 : zft 161 24 = some (.iload 5, 2) := fet B161 (by decide +kernel) (Or.inr rfl)
theorem f161_26 : zft 161 26 = some (.aload_n 0, 1) := fet B161 (by decide +kernel) (Or.inr rfl)
theorem f161_27 : zft 161 27 = some (.getfield 134, 3) := fet B161 (by decide +kernel) (Or.inr rfl)
theorem f161_30 : zft 161 30 = some (.if_icmp .ge 61, 3) := fet B161 (by decide +kernel) (Or.inr rfl)
theorem f161_33 : zft 161 33 = some (.aload_n 0, 1) := fet B161 (by decide +kernel) (Or.inr rfl)
theorem f161_34 : zft 161 34 = some (.iload 4, 2) := fet B161 (by decide +kernel) (Or.inr rfl)
theorem f161_36 : zft 161 36 = some (.iload 5, 2) := fet B161 (by decide +kernel) (Or.inr rfl)
theorem f161_38 : zft 161 38 = some (.invokevirtual 241, 3) := fet B161 (by decide +kernel) (Or.inr rfl)
theorem f161_41 : zft 161 41 = some (.aload_n 0, 1) := fet B161 (by decide +kernel) (Or.inr rfl)
theorem f161_42 : zft 161 42 = some (.invokevirtual 202, 3) := fet B161 (by decide +kernel) (Or.inr rfl)
theorem f161_45 : zft 161 45 = some (.aload_n 0, 1) := fet B161 (by decide +kernel) (Or.inr rfl)
theorem f161_46 : zft 161 46 = some (.invokevirtual 223, 3) := fet B161 (by decide +kernel) (Or.inr rfl)
theorem f161_49 : zft 161 49 = some (.istore 6, 2) := fet B161 (by decide +kernel) (Or.inr rfl)
theorem f161_51 : zft 161 51 = some (.iload 6, 2) := fet B161 (by decide +kernel) (Or.inr rfl)
theorem f161_53 : zft 161 53 = some (.iload_n 3, 1) := fet B161 (by decide +kernel) (Or.inr rfl)
theorem f161_54 : zft 161 54 = some (.if_icmp .ge 14, 3) := fet B161 (by decide +kernel) (Or.inr rfl)
theorem f161_57 : zft 161 57 = some (.bipush 16, 2) := fet B161 (by decide +kernel) (Or.inr rfl)
theorem f161_59 : zft 161 59 = some (.iload 4, 2) := fet B161 (by decide +kernel) (Or.inr rfl)
theorem f161_61 : zft 161 61 = some (.imul, 1) := fet B161 (by decide +kernel) (Or.inr rfl)
theorem f161_62 : zft 161 62 = some (.iload 5, 2) := fet B161 (by decide +kernel) (Or.inr rfl)
theorem f161_64 : zft 161 64 = some (.iadd, 1) := fet B161 (by decide +kernel) (Or.inr rfl)
theorem f161_65 : zft 161 65 = some (.goto 4, 3) := fet B161 (by decide +kernel) (Or.inr rfl)
theorem f161_68 : zft 161 68 = some (.iload_n 2, 1) := fet B161 (by decide +kernel) (Or.inr rfl)
theorem f161_69 : zft 161 69 = some (.istore_n 2, 1) := fet B161 (by decide +kernel) (Or.inr rfl)
theorem f161_70 : zft 161 70 = some (.iload 6, 2) := fet B161 (by decide +kernel) (Or.inr rfl)
theorem f161_72 : zft 161 72 = some (.iload_n 3, 1) := fet B161 (by decide +kernel) (Or.inr rfl)
theorem f161_73 : zft 161 73 = some (.invokestatic 232, 3) := fet B161 (by decide +kernel) (Or.inr rfl)
theorem f161_76 : zft 161 76 = some (.istore_n 3, 1) := fet B161 (by decide +kernel) (Or.inr rfl)
theorem f161_77 : zft 161 77 = some (.aload_n 0, 1) := fet B161 (by decide +kernel) (Or.inr rfl)
theorem f161_78 : zft 161 78 = some (.iload 4, 2) := fet B161 (by decide +kernel) (Or.inr rfl)
theorem f161_80 : zft 161 80 = some (.iload 5, 2) := fet B161 (by decide +kernel) (Or.inr rfl)
theorem f161_82 : zft 161 82 = some (.invokevirtual 241, 3) := fet B161 (by decide +kernel) (Or.inr rfl)
theorem f161_85 : zft 161 85 = some (.iinc 5 1, 3) := fet B161 (by decide +kernel) (Or.inr rfl)
theorem f161_88 : zft 161 88 = some (.goto (-64), 3) := fet B161 (by decide +kernel) (Or.inr rfl)
theorem f161_91 : zft 161 91 = some (.iinc 4 1, 3) := fet B161 (by decide +kernel) (Or.inr rfl)
theorem f161_94 : zft 161 94 = some (.goto (-85), 3) := fet B161 (by decide +kernel) (Or.inr rfl)
theorem f161_97 : zft 161 97 = some (.iload_n 2, 1) := fet B161 (by decide +kernel) (Or.inr rfl)
theorem f161_98 : zft 161 98 = some (.iconst (-1), 1) := fet B161 (by decide +kernel) (Or.inr rfl)
theorem f161_99 : zft 161 99 = some (.if_icmp .ne 7, 3) := fet B161 (by decide +kernel) (Or.inr rfl)
theorem f161_102 : zft 161 102 = some (.iconst (-1), 1) := fet B161 (by decide +kernel) (Or.inr rfl)
theorem f161_103 : zft 161 103 = some (.goto 27, 3) := fet B161 (by decide +kernel) (Or.inr rfl)
theorem f161_106 : zft 161 106 = some (.iload_n 1, 1) := fet B161 (by decide +kernel) (Or.inr rfl)
theorem f161_107 : zft 161 107 = some (.ifCond .ne 10, 3) := fet B161 (by decide +kernel) (Or.inr rfl)
theorem f161_110 : zft 161 110 = some (.iload_n 2, 1) := fet B161 (by decide +kernel) (Or.inr rfl)
theorem f161_111 : zft 161 111 = some (.bipush 16, 2) := fet B161 (by decide +kernel) (Or.inr rfl)
theorem f161_113 : zft 161 113 = some (.idiv, 1) := fet B161 (by decide +kernel) (Or.inr rfl)
theorem f161_114 : zft 161 114 = some (.goto 16, 3) := fet B161 (by decide +kernel) (Or.inr rfl)
theorem f161_117 : zft 161 117 = some (.iload_n 1, 1) := fet B161 (by decide +kernel) (Or.inr rfl)
theorem f161_118 : zft 161 118 = some (.iconst 1, 1) := fet B161 (by decide +kernel) (Or.inr rfl)
theorem f161_119 : zft 161 119 = some (.if_icmp .ne 10, 3) := fet B161 (by decide +kernel) (Or.inr rfl)
theorem f161_122 : zft 161 122 = some (.iload_n 2, 1) := fet B161 (by decide +kernel) (Or.inr rfl)
theorem f161_123 : zft 161 123 = some (.bipush 16, 2) := fet B161 (by decide +kernel) (Or.inr rfl)
theorem f161_125 : zft 161 125 = some (.irem, 1) := fet B161 (by decide +kernel) (Or.inr rfl)
theorem f161_126 : zft 161 126 = some (.goto 4, 3) := fet B161 (by decide +kernel) (Or.inr rfl)
theorem f161_129 : zft 161 129 = some (.iload_n 3, 1) := fet B161 (by decide +kernel) (Or.inr rfl)
theorem f161_130 : zft 161 130 = some (.ireturn, 1) := fet B161 (by decide +kernel) (Or.inr rfl)
theorem x161_0 : Rn S 161 0 [v0, v1, v2, v3, v4, v5, v6] st I J Q = Rn S 161 1 [v0, v1, v2, v3, v4, v5, v6] (.int (-1) :: st) I J Q := rS f161_0 rfl
theorem x161_1 : Rn S 161 1 [v0, v1, v2, v3, v4, v5, v6] (.int a :: st) I J Q = Rn S 161 2 [v0, zkl v1, .int a, v3, v4, v5, v6] st I J Q := rL f161_1 rfl rfl
theorem x161_2 : Rn S 161 2 [v0, v1, v2, v3, v4, v5, v6] st I J Q = Rn S 161 5 [v0, v1, v2, v3, v4, v5, v6] (.int 999 :: st) I J Q := rS f161_2 rfl
theorem x161_5 : Rn S 161 5 [v0, v1, v2, v3, v4, v5, v6] (.int a :: st) I J Q = Rn S 161 6 [v0, v1, zkl v2, .int a, v4, v5, v6] st I J Q := rL f161_5 rfl rfl
theorem x161_6 : Rn S 161 6 [v0, v1, v2, v3, v4, v5, v6] st I J Q = Rn S 161 7 [v0, v1, v2, v3, v4, v5, v6] (.int 0 :: st) I J Q := rS f161_6 rfl
theorem x161_7 : Rn S 161 7 [v0, v1, v2, v3, v4, v5, v6] (.int a :: st) I J Q = Rn S 161 9 [v0, v1, v2, zkl v3, .int a, v5, v6] st I J Q := rL f161_7 rfl rfl
theorem h161_9 : Rn S 161 9 [v0, v1, v2, v3, .int a, v5, v6] st I J Q = Rn S 161 11 [v0, v1, v2, v3, .int a, v5, v6] (.int a :: st) I J Q := rL f161_9 rfl rfl
theorem x161_11 : Rn S 161 11 [.ref q, v1, v2, v3, v4, v5, v6] st I J Q = Rn S 161 12 [.ref q, v1, v2, v3, v4, v5, v6] (.ref q :: st) I J Q := rL f161_11 rfl rfl
theorem x161_12_65 : Rn (zG xl) 161 12 [v0, v1, v2, v3, v4, v5, v6] (.ref 65 :: st) I J Q = Rn (zG xl) 161 15 [v0, v1, v2, v3, v4, v5, v6] (.int (I 65 11) :: st) I J Q := (rGf f161_12 rfl).trans (tr_and rfl)
theorem x161_15 : Rn S 161 15 [v0, v1, v2, v3, v4, v5, v6] (.int b :: .int a :: st) I J Q = if a < b then Rn S 161 18 [v0, v1, v2, v3, v4, v5, v6] st I J Q else Rn S 161 97 [v0, v1, v2, v3, v4, v5, v6] st I J Q := rCge f161_15 rfl rfl
theorem x161_18 : Rn S 161 18 [v0, v1, v2, v3, .int a, v5, v6] st I J Q = Rn S 161 20 [v0, v1, v2, v3, .int a, v5, v6] (.int a :: st) I J Q := rL f161_18 rfl rfl
theorem x161_20 : Rn S 161 20 [v0, v1, v2, v3, v4, v5, v6] st I J Q = Rn S 161 21 [v0, v1, v2, v3, v4, v5, v6] (.int 1 :: st) I J Q := rS f161_20 rfl
theorem x161_21 : Rn S 161 21 [v0, v1, v2, v3, v4, v5, v6] (.int b :: .int a :: st) I J Q = Rn S 161 22 [v0, v1, v2, v3, v4, v5, v6] (.int (a + b) :: st) I J Q := rS f161_21 rfl
theorem x161_22 : Rn S 161 22 [v0, v1, v2, v3, v4, v5, v6] (.int a :: st) I J Q = Rn S 161 24 [v0, v1, v2, v3, zkl v4, .int a, v6] st I J Q := rL f161_22 rfl rfl
theorem h161_24 : Rn S 161 24 [v0, v1, v2, v3, v4, .int a, v6] st I J Q = Rn S 161 26 [v0, v1, v2, v3, v4, .int a, v6] (.int a :: st) I J Q := rL f161_24 rfl rfl
theorem x161_26 : Rn S 161 26 [.ref q, v1, v2, v3, v4, v5, v6] st I J Q = Rn S 161 27 [.ref q, v1, v2, v3, v4, v5, v6] (.ref q :: st) I J Q := rL f161_26 rfl rfl
theorem x161_27_65 : Rn (zG xl) 161 27 [v0, v1, v2, v3, v4, v5, v6] (.ref 65 :: st) I J Q = Rn (zG xl) 161 30 [v0, v1, v2, v3, v4, v5, v6] (.int (I 65 11) :: st) I J Q := (rGf f161_27 rfl).trans (tr_and rfl)
theorem x161_30 : Rn S 161 30 [v0, v1, v2, v3, v4, v5, v6] (.int b :: .int a :: st) I J Q = if a < b then Rn S 161 33 [v0, v1, v2, v3, v4, v5, v6] st I J Q else Rn S 161 91 [v0, v1, v2, v3, v4, v5, v6] st I J Q := rCge f161_30 rfl rfl
theorem x161_33 : Rn S 161 33 [.ref q, v1, v2, v3, v4, v5, v6] st I J Q = Rn S 161 34 [.ref q, v1, v2, v3, v4, v5, v6] (.ref q :: st) I J Q := rL f161_33 rfl rfl
theorem x161_34 : Rn S 161 34 [v0, v1, v2, v3, .int a, v5, v6] st I J Q = Rn S 161 36 [v0, v1, v2, v3, .int a, v5, v6] (.int a :: st) I J Q := rL f161_34 rfl rfl
theorem x161_36 : Rn S 161 36 [v0, v1, v2, v3, v4, .int a, v6] st I J Q = Rn S 161 38 [v0, v1, v2, v3, v4, .int a, v6] (.int a :: st) I J Q := rL f161_36 rfl rfl
theorem x161_38 : Rn S 161 38 [v0, v1, v2, v3, v4, v5, v6] (.int a1 :: .int a0 :: .ref q :: st) I J Q = ((zcls S q = 6 ∧ zcs st ≤ 8) ∧ Rn S 160 0 [.ref q, .int a0, .int a1, .null, .null] [] I J (fun v I' J' => Rn S 161 41 [v0, v1, v2, v3, v4, v5, v6] (v.toList ++ st) I' J' Q)) := rCV (As := [.int a0, .int a1]) f161_38 rfl rfl rfl rfl (Nat.le_of_ble_eq_true rfl)
theorem x161_41 : Rn S 161 41 [.ref q, v1, v2, v3, v4, v5, v6] st I J Q = Rn S 161 42 [.ref q, v1, v2, v3, v4, v5, v6] (.ref q :: st) I J Q := rL f161_41 rfl rfl
theorem x161_42 : Rn S 161 42 [v0, v1, v2, v3, v4, v5, v6] (.ref q :: st) I J Q = ((zcls S q = 6 ∧ zcs st ≤ 8) ∧ Rn S 140 0 [.ref q, .null] [] I J (fun v I' J' => Rn S 161 45 [v0, v1, v2, v3, v4, v5, v6] (v.toList ++ st) I' J' Q)) := rCV (As := []) f161_42 rfl rfl rfl rfl (Nat.le_of_ble_eq_true rfl)
theorem x161_45 : Rn S 161 45 [.ref q, v1, v2, v3, v4, v5, v6] st I J Q = Rn S 161 46 [.ref q, v1, v2, v3, v4, v5, v6] (.ref q :: st) I J Q := rL f161_45 rfl rfl
theorem x161_46 : Rn S 161 46 [v0, v1, v2, v3, v4, v5, v6] (.ref q :: st) I J Q = ((zcls S q = 6 ∧ zcs st ≤ 8) ∧ Rn S 150 0 [.ref q, .null, .null] [] I J (fun v I' J' => Rn S 161 49 [v0, v1, v2, v3, v4, v5, v6] (v.toList ++ st) I' J' Q)) := rCV (As := []) f161_46 rfl rfl rfl rfl (Nat.le_of_ble_eq_true rfl)
theorem x161_49 : Rn S 161 49 [v0, v1, v2, v3, v4, v5, v6] (.int a :: st) I J Q = Rn S 161 51 [v0, v1, v2, v3, v4, zkl v5, .int a] st I J Q := rL f161_49 rfl rfl
theorem x161_51 : Rn S 161 51 [v0, v1, v2, v3, v4, v5, .int a] st I J Q = Rn S 161 53 [v0, v1, v2, v3, v4, v5, .int a] (.int a :: st) I J Q := rL f161_51 rfl rfl
theorem x161_53 : Rn S 161 53 [v0, v1, v2, .int a, v4, v5, v6] st I J Q = Rn S 161 54 [v0, v1, v2, .int a, v4, v5, v6] (.int a :: st) I J Q := rL f161_53 rfl rfl
theorem x161_54 : Rn S 161 54 [v0, v1, v2, v3, v4, v5, v6] (.int b :: .int a :: st) I J Q = if a < b then Rn S 161 57 [v0, v1, v2, v3, v4, v5, v6] st I J Q else Rn S 161 68 [v0, v1, v2, v3, v4, v5, v6] st I J Q := rCge f161_54 rfl rfl
theorem x161_57 : Rn S 161 57 [v0, v1, v2, v3, v4, v5, v6] st I J Q = Rn S 161 59 [v0, v1, v2, v3, v4, v5, v6] (.int 16 :: st) I J Q := rS f161_57 rfl
theorem x161_59 : Rn S 161 59 [v0, v1, v2, v3, .int a, v5, v6] st I J Q = Rn S 161 61 [v0, v1, v2, v3, .int a, v5, v6] (.int a :: st) I J Q := rL f161_59 rfl rfl
theorem x161_61 : Rn S 161 61 [v0, v1, v2, v3, v4, v5, v6] (.int b :: .int a :: st) I J Q = Rn S 161 62 [v0, v1, v2, v3, v4, v5, v6] (.int (a * b) :: st) I J Q := rS f161_61 rfl
theorem x161_62 : Rn S 161 62 [v0, v1, v2, v3, v4, .int a, v6] st I J Q = Rn S 161 64 [v0, v1, v2, v3, v4, .int a, v6] (.int a :: st) I J Q := rL f161_62 rfl rfl
theorem x161_64 : Rn S 161 64 [v0, v1, v2, v3, v4, v5, v6] (.int b :: .int a :: st) I J Q = Rn S 161 65 [v0, v1, v2, v3, v4, v5, v6] (.int (a + b) :: st) I J Q := rS f161_64 rfl
theorem x161_65 : Rn S 161 65 [v0, v1, v2, v3, v4, v5, v6] st I J Q = Rn S 161 69 [v0, v1, v2, v3, v4, v5, v6] st I J Q := rB f161_65 rfl rfl rfl
theorem x161_68 : Rn S 161 68 [v0, v1, .int a, v3, v4, v5, v6] st I J Q = Rn S 161 69 [v0, v1, .int a, v3, v4, v5, v6] (.int a :: st) I J Q := rL f161_68 rfl rfl
theorem x161_69 : Rn S 161 69 [v0, v1, v2, v3, v4, v5, v6] (.int a :: st) I J Q = Rn S 161 70 [v0, zkl v1, .int a, v3, v4, v5, v6] st I J Q := rL f161_69 rfl rfl
theorem x161_70 : Rn S 161 70 [v0, v1, v2, v3, v4, v5, .int a] st I J Q = Rn S 161 72 [v0, v1, v2, v3, v4, v5, .int a] (.int a :: st) I J Q := rL f161_70 rfl rfl
theorem x161_72 : Rn S 161 72 [v0, v1, v2, .int a, v4, v5, v6] st I J Q = Rn S 161 73 [v0, v1, v2, .int a, v4, v5, v6] (.int a :: st) I J Q := rL f161_72 rfl rfl
theorem x161_73 : Rn S 161 73 [v0, v1, v2, v3, v4, v5, v6] (.int a1 :: .int a0 :: st) I J Q = (zcs st ≤ 8 ∧ Rn S 101 0 [.int a0, .int a1] [] I J (fun v I' J' => Rn S 161 76 [v0, v1, v2, v3, v4, v5, v6] (v.toList ++ st) I' J' Q)) := rCS (As := [.int a0, .int a1]) f161_73 rfl rfl rfl rfl (Nat.le_of_ble_eq_true rfl)
theorem x161_76 : Rn S 161 76 [v0, v1, v2, v3, v4, v5, v6] (.int a :: st) I J Q = Rn S 161 77 [v0, v1, zkl v2, .int a, v4, v5, v6] st I J Q := rL f161_76 rfl rfl
theorem x161_77 : Rn S 161 77 [.ref q, v1, v2, v3, v4, v5, v6] st I J Q = Rn S 161 78 [.ref q, v1, v2, v3, v4, v5, v6] (.ref q :: st) I J Q := rL f161_77 rfl rfl
theorem x161_78 : Rn S 161 78 [v0, v1, v2, v3, .int a, v5, v6] st I J Q = Rn S 161 80 [v0, v1, v2, v3, .int a, v5, v6] (.int a :: st) I J Q := rL f161_78 rfl rfl
theorem x161_80 : Rn S 161 80 [v0, v1, v2, v3, v4, .int a, v6] st I J Q = Rn S 161 82 [v0, v1, v2, v3, v4, .int a, v6] (.int a :: st) I J Q := rL f161_80 rfl rfl
theorem x161_82 : Rn S 161 82 [v0, v1, v2, v3, v4, v5, v6] (.int a1 :: .int a0 :: .ref q :: st) I J Q = ((zcls S q = 6 ∧ zcs st ≤ 8) ∧ Rn S 160 0 [.ref q, .int a0, .int a1, .null, .null] [] I J (fun v I' J' => Rn S 161 85 [v0, v1, v2, v3, v4, v5, v6] (v.toList ++ st) I' J' Q)) := rCV (As := [.int a0, .int a1]) f161_82 rfl rfl rfl rfl (Nat.le_of_ble_eq_true rfl)
theorem x161_85 : Rn S 161 85 [v0, v1, v2, v3, v4, .int a, v6] st I J Q = Rn S 161 88 [v0, v1, v2, v3, zkl v4, .int (a + 1), v6] st I J Q := rL f161_85 rfl rfl
theorem x161_88 : Rn S 161 88 [v0, v1, v2, v3, v4, v5, v6] st I J Q = Rn S 161 24 [v0, v1, v2, v3, v4, v5, v6] st I J Q := rB f161_88 rfl rfl rfl
theorem x161_91 : Rn S 161 91 [v0, v1, v2, v3, .int a, v5, v6] st I J Q = Rn S 161 94 [v0, v1, v2, zkl v3, .int (a + 1), v5, v6] st I J Q := rL f161_91 rfl rfl
theorem x161_94 : Rn S 161 94 [v0, v1, v2, v3, v4, v5, v6] st I J Q = Rn S 161 9 [v0, v1, v2, v3, v4, v5, v6] st I J Q := rB f161_94 rfl rfl rfl
theorem x161_97 : Rn S 161 97 [v0, v1, .int a, v3, v4, v5, v6] st I J Q = Rn S 161 98 [v0, v1, .int a, v3, v4, v5, v6] (.int a :: st) I J Q := rL f161_97 rfl rfl
theorem x161_98 : Rn S 161 98 [v0, v1, v2, v3, v4, v5, v6] st I J Q = Rn S 161 99 [v0, v1, v2, v3, v4, v5, v6] (.int (-1) :: st) I J Q := rS f161_98 rfl
theorem x161_99 : Rn S 161 99 [v0, v1, v2, v3, v4, v5, v6] (.int b :: .int a :: st) I J Q = if a = b then Rn S 161 102 [v0, v1, v2, v3, v4, v5, v6] st I J Q else Rn S 161 106 [v0, v1, v2, v3, v4, v5, v6] st I J Q := rCne f161_99 rfl rfl
theorem x161_102 : Rn S 161 102 [v0, v1, v2, v3, v4, v5, v6] st I J Q = Rn S 161 103 [v0, v1, v2, v3, v4, v5, v6] (.int (-1) :: st) I J Q := rS f161_102 rfl
theorem x161_103 : Rn S 161 103 [v0, v1, v2, v3, v4, v5, v6] st I J Q = Rn S 161 130 [v0, v1, v2, v3, v4, v5, v6] st I J Q := rB f161_103 rfl rfl rfl
theorem x161_106 : Rn S 161 106 [v0, .int a, v2, v3, v4, v5, v6] st I J Q = Rn S 161 107 [v0, .int a, v2, v3, v4, v5, v6] (.int a :: st) I J Q := rL f161_106 rfl rfl
theorem x161_107 : Rn S 161 107 [v0, v1, v2, v3, v4, v5, v6] (.int a :: st) I J Q = if a = 0 then Rn S 161 110 [v0, v1, v2, v3, v4, v5, v6] st I J Q else Rn S 161 117 [v0, v1, v2, v3, v4, v5, v6] st I J Q := rIne f161_107 rfl rfl
theorem x161_110 : Rn S 161 110 [v0, v1, .int a, v3, v4, v5, v6] st I J Q = Rn S 161 111 [v0, v1, .int a, v3, v4, v5, v6] (.int a :: st) I J Q := rL f161_110 rfl rfl
theorem x161_111 : Rn S 161 111 [v0, v1, v2, v3, v4, v5, v6] st I J Q = Rn S 161 113 [v0, v1, v2, v3, v4, v5, v6] (.int 16 :: st) I J Q := rS f161_111 rfl
theorem x161_113 : Rn S 161 113 [v0, v1, v2, v3, v4, v5, v6] (.int b :: .int a :: st) I J Q = (¬ b = 0 ∧ Rn S 161 114 [v0, v1, v2, v3, v4, v5, v6] (.int (a / b) :: st) I J Q) := rDi f161_113
theorem x161_114 : Rn S 161 114 [v0, v1, v2, v3, v4, v5, v6] st I J Q = Rn S 161 130 [v0, v1, v2, v3, v4, v5, v6] st I J Q := rB f161_114 rfl rfl rfl
theorem x161_117 : Rn S 161 117 [v0, .int a, v2, v3, v4, v5, v6] st I J Q = Rn S 161 118 [v0, .int a, v2, v3, v4, v5, v6] (.int a :: st) I J Q := rL f161_117 rfl rfl
theorem x161_118 : Rn S 161 118 [v0, v1, v2, v3, v4, v5, v6] st I J Q = Rn S 161 119 [v0, v1, v2, v3, v4, v5, v6] (.int 1 :: st) I J Q := rS f161_118 rfl
theorem x161_119 : Rn S 161 119 [v0, v1, v2, v3, v4, v5, v6] (.int b :: .int a :: st) I J Q = if a = b then Rn S 161 122 [v0, v1, v2, v3, v4, v5, v6] st I J Q else Rn S 161 129 [v0, v1, v2, v3, v4, v5, v6] st I J Q := rCne f161_119 rfl rfl
theorem x161_122 : Rn S 161 122 [v0, v1, .int a, v3, v4, v5, v6] st I J Q = Rn S 161 123 [v0, v1, .int a, v3, v4, v5, v6] (.int a :: st) I J Q := rL f161_122 rfl rfl
theorem x161_123 : Rn S 161 123 [v0, v1, v2, v3, v4, v5, v6] st I J Q = Rn S 161 125 [v0, v1, v2, v3, v4, v5, v6] (.int 16 :: st) I J Q := rS f161_123 rfl
theorem x161_125 : Rn S 161 125 [v0, v1, v2, v3, v4, v5, v6] (.int b :: .int a :: st) I J Q = (¬ b = 0 ∧ Rn S 161 126 [v0, v1, v2, v3, v4, v5, v6] (.int (a - a / b * b) :: st) I J Q) := rRi f161_125
theorem x161_126 : Rn S 161 126 [v0, v1, v2, v3, v4, v5, v6] st I J Q = Rn S 161 130 [v0, v1, v2, v3, v4, v5, v6] st I J Q := rB f161_126 rfl rfl rfl
theorem x161_129 : Rn S 161 129 [v0, v1, v2, .int a, v4, v5, v6] st I J Q = Rn S 161 130 [v0, v1, v2, .int a, v4, v5, v6] (.int a :: st) I J Q := rL f161_129 rfl rfl
theorem x161_130 : Rn S 161 130 [v0, v1, v2, v3, v4, v5, v6] [.int a] I J Q = Q (some (.int a)) I J := rR f161_130 rfl rfl rfl rfl rfl
/-! X6.turn: 162 -/
theorem B162 : zB 162 = cX6_turn := rfl
theorem f162_0 : zft 162 0 = some (.aload_n 0, 1) := fet B162 (by decide +kernel) (Or.inr rfl)
theorem f162_1 : zft 162 1 = some (.invokevirtual 205, 3) := fet B162 (by decide +kernel) (Or.inr rfl)
theorem f162_4 : zft 162 4 = some (.iload_n 1, 1) := fet B162 (by decide +kernel) (Or.inr rfl)
theorem f162_5 : zft 162 5 = some (.i2l, 1) := fet B162 (by decide +kernel) (Or.inr rfl)
theorem f162_6 : zft 162 6 = some (.lconst 0, 1) := fet B162 (by decide +kernel) (Or.inr rfl)
theorem f162_7 : zft 162 7 = some (.ldc2_w 99, 3) := fet B162 (by decide +kernel) (Or.inr rfl)
theorem f162_10 : zft 162 10 = some (.invokestatic 86, 3) := fet B162 (by decide +kernel) (Or.inr rfl)
theorem f162_13 : zft 162 13 = some (.ifCond .eq 11, 3) := fet B162 (by decide +kernel) (Or.inr rfl)
theorem f162_16 : zft 162 16 = some (.aload_n 0, 1) := fet B162 (by decide +kernel) (Or.inr rfl)
theorem f162_17 : zft 162 17 = some (.iload_n 1, 1) := fet B162 (by decide +kernel) (Or.inr rfl)
theorem f162_18 : zft 162 18 = some (.invokevirtual 245, 3) := fet B162 (by decide +kernel) (Or.inr rfl)
theorem f162_21 : zft 162 21 = some (.goto 5, 3) := fet B162 (by decide +kernel) (Or.inr rfl)
theorem f162_24 : zft 162 24 = some (.bipush (-2), 2) := fet B162 (by decide +kernel) (Or.inr rfl)
theorem f162_26 : zft 162 26 = some (.ireturn, 1) := fet B162 (by decide +kernel) (Or.inr rfl)
theorem x162_0 : Rn S 162 0 [.ref q, v1] st I J Q = Rn S 162 1 [.ref q, v1] (.ref q :: st) I J Q := rL f162_0 rfl rfl
theorem x162_1 : Rn S 162 1 [v0, v1] (.ref q :: st) I J Q = ((zcls S q = 6 ∧ zcs st ≤ 8) ∧ Rn S 141 0 [.ref q] [] I J (fun v I' J' => Rn S 162 4 [v0, v1] (v.toList ++ st) I' J' Q)) := rCV (As := []) f162_1 rfl rfl rfl rfl (Nat.le_of_ble_eq_true rfl)
theorem x162_4 : Rn S 162 4 [v0, .int a] st I J Q = Rn S 162 5 [v0, .int a] (.int a :: st) I J Q := rL f162_4 rfl rfl
theorem x162_5 : Rn S 162 5 [v0, v1] (.int a :: st) I J Q = Rn S 162 6 [v0, v1] (.long a.toInt64 :: st) I J Q := rS f162_5 rfl
theorem x162_6 : Rn S 162 6 [v0, v1] st I J Q = Rn S 162 7 [v0, v1] (.long 0 :: st) I J Q := rS f162_6 rfl
theorem x162_7 : Rn S 162 7 [v0, v1] st I J Q = Rn S 162 10 [v0, v1] (.long 2 :: st) I J Q := rS f162_7 rfl
theorem x162_10 : Rn S 162 10 [v0, v1] (.long u2 :: .long u1 :: .long u0 :: st) I J Q = (zcs st ≤ 8 ∧ Rn S 96 0 [.long u0, .null, .long u1, .null, .long u2, .null] [] I J (fun v I' J' => Rn S 162 13 [v0, v1] (v.toList ++ st) I' J' Q)) := rCS (As := [.long u0, .long u1, .long u2]) f162_10 rfl rfl rfl rfl (Nat.le_of_ble_eq_true rfl)
theorem x162_13 : Rn S 162 13 [v0, v1] (.int a :: st) I J Q = if a = 0 then Rn S 162 24 [v0, v1] st I J Q else Rn S 162 16 [v0, v1] st I J Q := rIeq f162_13 rfl rfl
theorem x162_16 : Rn S 162 16 [.ref q, v1] st I J Q = Rn S 162 17 [.ref q, v1] (.ref q :: st) I J Q := rL f162_16 rfl rfl
theorem x162_17 : Rn S 162 17 [v0, .int a] st I J Q = Rn S 162 18 [v0, .int a] (.int a :: st) I J Q := rL f162_17 rfl rfl
theorem x162_18 : Rn S 162 18 [v0, v1] (.int a0 :: .ref q :: st) I J Q = ((zcls S q = 6 ∧ zcs st ≤ 8) ∧ Rn S 161 0 [.ref q, .int a0, .null, .null, .null, .null, .null] [] I J (fun v I' J' => Rn S 162 21 [v0, v1] (v.toList ++ st) I' J' Q)) := rCV (As := [.int a0]) f162_18 rfl rfl rfl rfl (Nat.le_of_ble_eq_true rfl)
theorem x162_21 : Rn S 162 21 [v0, v1] st I J Q = Rn S 162 26 [v0, v1] st I J Q := rB f162_21 rfl rfl rfl
theorem x162_24 : Rn S 162 24 [v0, v1] st I J Q = Rn S 162 26 [v0, v1] (.int (-2) :: st) I J Q := rS f162_24 rfl
theorem x162_26 : Rn S 162 26 [v0, v1] [.int a] I J Q = Q (some (.int a)) I J := rR f162_26 rfl rfl rfl rfl rfl
/-! X6.isHushed: 163 -/
theorem B163 : zB 163 = cX6_isHushed := rfl
theorem f163_0 : zft 163 0 = some (.aload_n 0, 1) := fet B163 (by decide +kernel) (Or.inr rfl)
theorem f163_1 : zft 163 1 = some (.iload_n 1, 1) := fet B163 (by decide +kernel) (Or.inr rfl)
theorem f163_2 : zft 163 2 = some (.putfield 184, 3) := fet B163 (by decide +kernel) (Or.inr rfl)
theorem f163_5 : zft 163 5 = some (.aload_n 0, 1) := fet B163 (by decide +kernel) (Or.inr rfl)
theorem f163_6 : zft 163 6 = some (.invokevirtual 202, 3) := fet B163 (by decide +kernel) (Or.inr rfl)
theorem f163_9 : zft 163 9 = some (.aload_n 0, 1) := fet B163 (by decide +kernel) (Or.inr rfl)
theorem f163_10 : zft 163 10 = some (.iconst 0, 1) := fet B163 (by decide +kernel) (Or.inr rfl)
theorem f163_11 : zft 163 11 = some (.putfield 184, 3) := fet B163 (by decide +kernel) (Or.inr rfl)
theorem f163_14 : zft 163 14 = some (.aload_n 0, 1) := fet B163 (by decide +kernel) (Or.inr rfl)
theorem f163_15 : zft 163 15 = some (.iconst 1, 1) := fet B163 (by decide +kernel) (Or.inr rfl)
theorem f163_16 : zft 163 16 = some (.invokevirtual 229, 3) := fet B163 (by decide +kernel) (Or.inr rfl)
theorem f163_19 : zft 163 19 = some (.ifCond .ne 7, 3) := fet B163 (by decide +kernel) (Or.inr rfl)
theorem f163_22 : zft 163 22 = some (.iconst 1, 1) := fet B163 (by decide +kernel) (Or.inr rfl)
theorem f163_23 : zft 163 23 = some (.goto 4, 3) := fet B163 (by decide +kernel) (Or.inr rfl)
theorem f163_26 : zft 163 26 = some (.iconst 0, 1) := fet B163 (by decide +kernel) (Or.inr rfl)
theorem f163_27 : zft 163 27 = some (.ireturn, 1) := fet B163 (by decide +kernel) (Or.inr rfl)
theorem x163_0 : Rn S 163 0 [.ref q, v1] st I J Q = Rn S 163 1 [.ref q, v1] (.ref q :: st) I J Q := rL f163_0 rfl rfl
theorem x163_1 : Rn S 163 1 [v0, .int a] st I J Q = Rn S 163 2 [v0, .int a] (.int a :: st) I J Q := rL f163_1 rfl rfl
theorem x163_2_65 : Rn (zG xl) 163 2 [v0, v1] (.int a :: .ref 65 :: st) I J Q = Rn (zG xl) 163 5 [v0, v1] st (zr I 65 (upd (I 65) 16 a)) J Q := (rPf f163_2 rfl).trans (tr_pf rfl rfl rfl)
theorem x163_5 : Rn S 163 5 [.ref q, v1] st I J Q = Rn S 163 6 [.ref q, v1] (.ref q :: st) I J Q := rL f163_5 rfl rfl
theorem x163_6 : Rn S 163 6 [v0, v1] (.ref q :: st) I J Q = ((zcls S q = 6 ∧ zcs st ≤ 8) ∧ Rn S 140 0 [.ref q, .null] [] I J (fun v I' J' => Rn S 163 9 [v0, v1] (v.toList ++ st) I' J' Q)) := rCV (As := []) f163_6 rfl rfl rfl rfl (Nat.le_of_ble_eq_true rfl)
theorem x163_9 : Rn S 163 9 [.ref q, v1] st I J Q = Rn S 163 10 [.ref q, v1] (.ref q :: st) I J Q := rL f163_9 rfl rfl
theorem x163_10 : Rn S 163 10 [v0, v1] st I J Q = Rn S 163 11 [v0, v1] (.int 0 :: st) I J Q := rS f163_10 rfl
theorem x163_11_65 : Rn (zG xl) 163 11 [v0, v1] (.int a :: .ref 65 :: st) I J Q = Rn (zG xl) 163 14 [v0, v1] st (zr I 65 (upd (I 65) 16 a)) J Q := (rPf f163_11 rfl).trans (tr_pf rfl rfl rfl)
theorem x163_14 : Rn S 163 14 [.ref q, v1] st I J Q = Rn S 163 15 [.ref q, v1] (.ref q :: st) I J Q := rL f163_14 rfl rfl
theorem x163_15 : Rn S 163 15 [v0, v1] st I J Q = Rn S 163 16 [v0, v1] (.int 1 :: st) I J Q := rS f163_15 rfl
theorem x163_16 : Rn S 163 16 [v0, v1] (.int a0 :: .ref q :: st) I J Q = ((zcls S q = 6 ∧ zcs st ≤ 8) ∧ Rn S 154 0 [.ref q, .int a0, .null, .null, .null] [] I J (fun v I' J' => Rn S 163 19 [v0, v1] (v.toList ++ st) I' J' Q)) := rCV (As := [.int a0]) f163_16 rfl rfl rfl rfl (Nat.le_of_ble_eq_true rfl)
theorem x163_19 : Rn S 163 19 [v0, v1] (.int a :: st) I J Q = if a = 0 then Rn S 163 22 [v0, v1] st I J Q else Rn S 163 26 [v0, v1] st I J Q := rIne f163_19 rfl rfl
theorem x163_22 : Rn S 163 22 [v0, v1] st I J Q = Rn S 163 23 [v0, v1] (.int 1 :: st) I J Q := rS f163_22 rfl
theorem x163_23 : Rn S 163 23 [v0, v1] st I J Q = Rn S 163 27 [v0, v1] st I J Q := rB f163_23 rfl rfl rfl
theorem x163_26 : Rn S 163 26 [v0, v1] st I J Q = Rn S 163 27 [v0, v1] (.int 0 :: st) I J Q := rS f163_26 rfl
theorem x163_27 : Rn S 163 27 [v0, v1] [.int a] I J Q = ((a = 0 ∨ a = 1) ∧ Q (some (.int a)) I J) := rRZ f163_27 (Or.inl rfl)
/-! X6.hushBy: 164 -/
theorem B164 : zB 164 = cX6_hushBy := rfl
theorem f164_0 : zft 164 0 = some (.aload_n 0, 1) := fet B164 (by decide +kernel) (Or.inr rfl)
theorem f164_1 : zft 164 1 = some (.iconst 0, 1) := fet B164 (by decide +kernel) (Or.inr rfl)
theorem f164_2 : zft 164 2 = some (.invokevirtual 248, 3) := fet B164 (by decide +kernel) (Or.inr rfl)
theorem f164_5 : zft 164 5 = some (.ifCond .eq 14, 3) := fet B164 (by decide +kernel) (Or.inr rfl)
theorem f164_8 : zft 164 8 = some (.iload_n 1, 1) := fet B164 (by decide +kernel) (Or.inr rfl)
theorem f164_9 : zft 164 9 = some (.iconst (-1), 1) := fet B164 (by decide +kernel) (Or.inr rfl)
theorem f164_10 : zft 164 10 = some (.if_icmp .ne 7, 3) := fet B164 (by decide +kernel) (Or.inr rfl)
theorem f164_13 : zft 164 13 = some (.iconst 0, 1) := fet B164 (by decide +kernel) (Or.inr rfl)
theorem f164_14 : zft 164 14 = some (.goto 4, 3) := fet B164 (by decide +kernel) (Or.inr rfl)
theorem f164_17 : zft 164 17 = some (.iconst (-1), 1) := fet B164 (by decide +kernel) (Or.inr rfl)
theorem f164_18 : zft 164 18 = some (.ireturn, 1) := fet B164 (by decide +kernel) (Or.inr rfl)
theorem f164_19 : zft 164 19 = some (.iconst 0, 1) := fet B164 (by decide +kernel) (Or.inr rfl)
theorem f164_20 : zft 164 20 = some (.istore_n 2, 1) := fet B164 (by decide +kernel) (Or.inr rfl)
theorem f164_21 : zft 164 21 = some (.iload_n 2, 1) := fet B164 (by decide +kernel) (Or.inr rfl)
theorem f164_22 : zft 164 22 = some (.aload_n 0, 1) := fet B164 (by decide +kernel) (Or.inr rfl)
theorem f164_23 : zft 164 23 = some (.getfield 179, 3) := fet B164 (by decide +kernel) (Or.inr rfl)
theorem f164_26 : zft 164 26 = some (.if_icmp .ge 38, 3) := fet B164 (by decide +kernel) (Or.inr rfl)
theorem f164_29 : zft 164 29 = some (.aload_n 0, 1) := fet B164 (by decide +kernel) (Or.inr rfl)
theorem f164_30 : zft 164 30 = some (.iconst 1, 1) := fet B164 (by decide +kernel) (Or.inr rfl)
theorem f164_31 : zft 164 31 = some (.iload_n 2, 1) := fet B164 (by decide +kernel) (Or.inr rfl)
theorem f164_32 : zft 164 32 = some (.ishl, 1) := fet B164 (by decide +kernel) (Or.inr rfl)
theorem f164_33 : zft 164 33 = some (.invokevirtual 248, 3) := fet B164 (by decide +kernel) (Or.inr rfl)
theorem f164_36 : zft 164 36 = some (.ifCond .eq 22, 3) := fet B164 (by decide +kernel) (Or.inr rfl)
theorem f164_39 : zft 164 39 = some (.iload_n 1, 1) := fet B164 (by decide +kernel) (Or.inr rfl)
theorem f164_40 : zft 164 40 = some (.iconst (-1), 1) := fet B164 (by decide +kernel) (Or.inr rfl)
theorem f164_41 : zft 164 41 = some (.if_icmp .ne 7, 3) := fet B164 (by decide +kernel) (Or.inr rfl)
theorem f164_44 : zft 164 44 = some (.iconst 1, 1) := fet B164 (by decide +kernel) (Or.inr rfl)
theorem f164_45 : zft 164 45 = some (.goto 12, 3) := fet B164 (by decide +kernel) (Or.inr rfl)
theorem f164_48 : zft 164 48 = some (.iload_n 1, 1) := fet B164 (by decide +kernel) (Or.inr rfl)
theorem f164_49 : zft 164 49 = some (.ifCond .ne 7, 3) := fet B164 (by decide +kernel) (Or.inr rfl)
theorem f164_52 : zft 164 52 = some (.iload_n 2, 1) := fet B164 (by decide +kernel) (Or.inr rfl)
theorem f164_53 : zft 164 53 = some (.goto 4, 3) := fet B164 (by decide +kernel) (Or.inr rfl)
theorem f164_56 : zft 164 56 = some (.iconst (-1), 1) := fet B164 (by decide +kernel) (Or.inr rfl)
theorem f164_57 : zft 164 57 = some (.ireturn, 1) := fet B164 (by decide +kernel) (Or.inr rfl)
theorem f164_58 : zft 164 58 = some (.iinc 2 1, 3) := fet B164 (by decide +kernel) (Or.inr rfl)
theorem f164_61 : zft 164 61 = some (.goto (-40), 3) := fet B164 (by decide +kernel) (Or.inr rfl)
theorem f164_64 : zft 164 64 = some (.iconst 0, 1) := fet B164 (by decide +kernel) (Or.inr rfl)
theorem f164_65 : zft 164 65 = some (.istore_n 2, 1) := fet B164 (by decide +kernel) (Or.inr rfl)
theorem f164_66 : zft 164 66 = some (.iload_n 2, 1) := fet B164 (by decide +kernel) (Or.inr rfl)
theorem f164_67 : zft 164 67 = some (.aload_n 0, 1) := fet B164 (by decide +kernel) (Or.inr rfl)
theorem f164_68 : zft 164 68 = some (.getfield 179, 3) := fet B164 (by decide +kernel) (Or.inr rfl)
theorem f164_71 : zft 164 71 = some (.if_icmp .ge 60, 3) := fet B164 (by decide +kernel) (Or.inr rfl)
theorem f164_74 : zft 164 74 = some (.iload_n 2, 1) := fet B164 (by decide +kernel) (Or.inr rfl)
theorem f164_75 : zft 164 75 = some (.iconst 1, 1) := fet B164 (by decide +kernel) (Or.inr rfl)
theorem f164_76 : zft 164 76 = some (.iadd, 1) := fet B164 (by decide +kernel) (Or.inr rfl)
theorem f164_77 : zft 164 77 = some (.istore_n 3, 1) := fet B164 (by decide +kernel) (Or.inr rfl)
theorem f164_78 : zft 164 78 = some (.iload_n 3, 1) := fet B164 (by decide +kernel) (Or.inr rfl)
theorem f164_79 : zft 164 79 = some (.aload_n 0, 1) := fet B164 (by decide +kernel) (Or.inr rfl)
theorem f164_80 : zft 164 80 = some (.getfield 179, 3) := fet B164 (by decide +kernel) (Or.inr rfl)
theorem f164_83 : zft 164 83 = some (.if_icmp .ge 42, 3) := fet B164 (by decide +kernel) (Or.inr rfl)
theorem f164_86 : zft 164 86 = some (.aload_n 0, 1) := fet B164 (by decide +kernel) (Or.inr rfl)
theorem f164_87 : zft 164 87 = some (.iconst 1, 1) := fet B164 (by decide +kernel) (Or.inr rfl)
theorem f164_88 : zft 164 88 = some (.iload_n 2, 1) := fet B164 (by decide +kernel) (Or.inr rfl)
theorem f164_89 : zft 164 89 = some (.ishl, 1) := fet B164 (by decide +kernel) (Or.inr rfl)
theorem f164_90 : zft 164 90 = some (.iconst 1, 1) := fet B164 (by decide +kernel) (Or.inr rfl)
theorem f164_91 : zft 164 91 = some (.iload_n 3, 1) := fet B164 (by decide +kernel) (Or.inr rfl)
theorem f164_92 : zft 164 92 = some (.ishl, 1) := fet B164 (by decide +kernel) (Or.inr rfl)
theorem f164_93 : zft 164 93 = some (.ior, 1) := fet B164 (by decide +kernel) (Or.inr rfl)
theorem f164_94 : zft 164 94 = some (.invokevirtual 248, 3) := fet B164 (by decide +kernel) (Or.inr rfl)
theorem f164_97 : zft 164 97 = some (.ifCond .eq 22, 3) := fet B164 (by decide +kernel) (Or.inr rfl)
theorem f164_100 : zft 164 100 = some (.iload_n 1, 1) := fet B164 (by decide +kernel) (Or.inr rfl)
theorem f164_101 : zft 164 101 = some (.iconst (-1), 1) := fet B164 (by decide +kernel) (Or.inr rfl)
theorem f164_102 : zft 164 102 = some (.if_icmp .ne 7, 3) := fet B164 (by decide +kernel) (Or.inr rfl)
theorem f164_105 : zft 164 105 = some (.iconst 2, 1) := fet B164 (by decide +kernel) (Or.inr rfl)
theorem f164_106 : zft 164 106 = some (.goto 12, 3) := fet B164 (by decide +kernel) (Or.inr rfl)
theorem f164_109 : zft 164 109 = some (.iload_n 1, 1) := fet B164 (by decide +kernel) (Or.inr rfl)
theorem f164_110 : zft 164 110 = some (.ifCond .ne 7, 3) := fet B164 (by decide +kernel) (Or.inr rfl)
theorem f164_113 : zft 164 113 = some (.iload_n 2, 1) := fet B164 (by decide +kernel) (Or.inr rfl)
theorem f164_114 : zft 164 114 = some (.goto 4, 3) := fet B164 (by decide +kernel) (Or.inr rfl)
theorem f164_117 : zft 164 117 = some (.iload_n 3, 1) := fet B164 (by decide +kernel) (Or.inr rfl)
theorem f164_118 : zft 164 118 = some (.ireturn, 1) := fet B164 (by decide +kernel) (Or.inr rfl)
theorem f164_119 : zft 164 119 = some (.iinc 3 1, 3) := fet B164 (by decide +kernel) (Or.inr rfl)
theorem f164_122 : zft 164 122 = some (.goto (-44), 3) := fet B164 (by decide +kernel) (Or.inr rfl)
theorem f164_125 : zft 164 125 = some (.iinc 2 1, 3) := fet B164 (by decide +kernel) (Or.inr rfl)
theorem f164_128 : zft 164 128 = some (.goto (-62), 3) := fet B164 (by decide +kernel) (Or.inr rfl)
theorem f164_131 : zft 164 131 = some (.iconst (-1), 1) := fet B164 (by decide +kernel) (Or.inr rfl)
theorem f164_132 : zft 164 132 = some (.ireturn, 1) := fet B164 (by decide +kernel) (Or.inr rfl)
theorem x164_0 : Rn S 164 0 [.ref q, v1, v2, v3] st I J Q = Rn S 164 1 [.ref q, v1, v2, v3] (.ref q :: st) I J Q := rL f164_0 rfl rfl
theorem x164_1 : Rn S 164 1 [v0, v1, v2, v3] st I J Q = Rn S 164 2 [v0, v1, v2, v3] (.int 0 :: st) I J Q := rS f164_1 rfl
theorem x164_2 : Rn S 164 2 [v0, v1, v2, v3] (.int a0 :: .ref q :: st) I J Q = ((zcls S q = 6 ∧ zcs st ≤ 8) ∧ Rn S 163 0 [.ref q, .int a0] [] I J (fun v I' J' => Rn S 164 5 [v0, v1, v2, v3] (v.toList ++ st) I' J' Q)) := rCV (As := [.int a0]) f164_2 rfl rfl rfl rfl (Nat.le_of_ble_eq_true rfl)
theorem x164_5 : Rn S 164 5 [v0, v1, v2, v3] (.int a :: st) I J Q = if a = 0 then Rn S 164 19 [v0, v1, v2, v3] st I J Q else Rn S 164 8 [v0, v1, v2, v3] st I J Q := rIeq f164_5 rfl rfl
theorem x164_8 : Rn S 164 8 [v0, .int a, v2, v3] st I J Q = Rn S 164 9 [v0, .int a, v2, v3] (.int a :: st) I J Q := rL f164_8 rfl rfl
theorem x164_9 : Rn S 164 9 [v0, v1, v2, v3] st I J Q = Rn S 164 10 [v0, v1, v2, v3] (.int (-1) :: st) I J Q := rS f164_9 rfl
theorem x164_10 : Rn S 164 10 [v0, v1, v2, v3] (.int b :: .int a :: st) I J Q = if a = b then Rn S 164 13 [v0, v1, v2, v3] st I J Q else Rn S 164 17 [v0, v1, v2, v3] st I J Q := rCne f164_10 rfl rfl
theorem x164_13 : Rn S 164 13 [v0, v1, v2, v3] st I J Q = Rn S 164 14 [v0, v1, v2, v3] (.int 0 :: st) I J Q := rS f164_13 rfl
theorem x164_14 : Rn S 164 14 [v0, v1, v2, v3] st I J Q = Rn S 164 18 [v0, v1, v2, v3] st I J Q := rB f164_14 rfl rfl rfl
theorem x164_17 : Rn S 164 17 [v0, v1, v2, v3] st I J Q = Rn S 164 18 [v0, v1, v2, v3] (.int (-1) :: st) I J Q := rS f164_17 rfl
theorem x164_18 : Rn S 164 18 [v0, v1, v2, v3] [.int a] I J Q = Q (some (.int a)) I J := rR f164_18 rfl rfl rfl rfl rfl
theorem x164_19 : Rn S 164 19 [v0, v1, v2, v3] st I J Q = Rn S 164 20 [v0, v1, v2, v3] (.int 0 :: st) I J Q := rS f164_19 rfl
theorem x164_20 : Rn S 164 20 [v0, v1, v2, v3] (.int a :: st) I J Q = Rn S 164 21 [v0, zkl v1, .int a, v3] st I J Q := rL f164_20 rfl rfl
theorem h164_21 : Rn S 164 21 [v0, v1, .int a, v3] st I J Q = Rn S 164 22 [v0, v1, .int a, v3] (.int a :: st) I J Q := rL f164_21 rfl rfl
theorem x164_22 : Rn S 164 22 [.ref q, v1, v2, v3] st I J Q = Rn S 164 23 [.ref q, v1, v2, v3] (.ref q :: st) I J Q := rL f164_22 rfl rfl
theorem x164_23_65 : Rn (zG xl) 164 23 [v0, v1, v2, v3] (.ref 65 :: st) I J Q = Rn (zG xl) 164 26 [v0, v1, v2, v3] (.int (I 65 14) :: st) I J Q := (rGf f164_23 rfl).trans (tr_and rfl)
theorem x164_26 : Rn S 164 26 [v0, v1, v2, v3] (.int b :: .int a :: st) I J Q = if a < b then Rn S 164 29 [v0, v1, v2, v3] st I J Q else Rn S 164 64 [v0, v1, v2, v3] st I J Q := rCge f164_26 rfl rfl
theorem x164_29 : Rn S 164 29 [.ref q, v1, v2, v3] st I J Q = Rn S 164 30 [.ref q, v1, v2, v3] (.ref q :: st) I J Q := rL f164_29 rfl rfl
theorem x164_30 : Rn S 164 30 [v0, v1, v2, v3] st I J Q = Rn S 164 31 [v0, v1, v2, v3] (.int 1 :: st) I J Q := rS f164_30 rfl
theorem x164_31 : Rn S 164 31 [v0, v1, .int a, v3] st I J Q = Rn S 164 32 [v0, v1, .int a, v3] (.int a :: st) I J Q := rL f164_31 rfl rfl
theorem x164_32 : Rn S 164 32 [v0, v1, v2, v3] (.int b :: .int a :: st) I J Q = Rn S 164 33 [v0, v1, v2, v3] (.int (a <<< (b &&& 31)) :: st) I J Q := rS f164_32 rfl
theorem x164_33 : Rn S 164 33 [v0, v1, v2, v3] (.int a0 :: .ref q :: st) I J Q = ((zcls S q = 6 ∧ zcs st ≤ 8) ∧ Rn S 163 0 [.ref q, .int a0] [] I J (fun v I' J' => Rn S 164 36 [v0, v1, v2, v3] (v.toList ++ st) I' J' Q)) := rCV (As := [.int a0]) f164_33 rfl rfl rfl rfl (Nat.le_of_ble_eq_true rfl)
theorem x164_36 : Rn S 164 36 [v0, v1, v2, v3] (.int a :: st) I J Q = if a = 0 then Rn S 164 58 [v0, v1, v2, v3] st I J Q else Rn S 164 39 [v0, v1, v2, v3] st I J Q := rIeq f164_36 rfl rfl
theorem x164_39 : Rn S 164 39 [v0, .int a, v2, v3] st I J Q = Rn S 164 40 [v0, .int a, v2, v3] (.int a :: st) I J Q := rL f164_39 rfl rfl
theorem x164_40 : Rn S 164 40 [v0, v1, v2, v3] st I J Q = Rn S 164 41 [v0, v1, v2, v3] (.int (-1) :: st) I J Q := rS f164_40 rfl
theorem x164_41 : Rn S 164 41 [v0, v1, v2, v3] (.int b :: .int a :: st) I J Q = if a = b then Rn S 164 44 [v0, v1, v2, v3] st I J Q else Rn S 164 48 [v0, v1, v2, v3] st I J Q := rCne f164_41 rfl rfl
theorem x164_44 : Rn S 164 44 [v0, v1, v2, v3] st I J Q = Rn S 164 45 [v0, v1, v2, v3] (.int 1 :: st) I J Q := rS f164_44 rfl
theorem x164_45 : Rn S 164 45 [v0, v1, v2, v3] st I J Q = Rn S 164 57 [v0, v1, v2, v3] st I J Q := rB f164_45 rfl rfl rfl
theorem x164_48 : Rn S 164 48 [v0, .int a, v2, v3] st I J Q = Rn S 164 49 [v0, .int a, v2, v3] (.int a :: st) I J Q := rL f164_48 rfl rfl
theorem x164_49 : Rn S 164 49 [v0, v1, v2, v3] (.int a :: st) I J Q = if a = 0 then Rn S 164 52 [v0, v1, v2, v3] st I J Q else Rn S 164 56 [v0, v1, v2, v3] st I J Q := rIne f164_49 rfl rfl
theorem x164_52 : Rn S 164 52 [v0, v1, .int a, v3] st I J Q = Rn S 164 53 [v0, v1, .int a, v3] (.int a :: st) I J Q := rL f164_52 rfl rfl
theorem x164_53 : Rn S 164 53 [v0, v1, v2, v3] st I J Q = Rn S 164 57 [v0, v1, v2, v3] st I J Q := rB f164_53 rfl rfl rfl
theorem x164_56 : Rn S 164 56 [v0, v1, v2, v3] st I J Q = Rn S 164 57 [v0, v1, v2, v3] (.int (-1) :: st) I J Q := rS f164_56 rfl
theorem x164_57 : Rn S 164 57 [v0, v1, v2, v3] [.int a] I J Q = Q (some (.int a)) I J := rR f164_57 rfl rfl rfl rfl rfl
theorem x164_58 : Rn S 164 58 [v0, v1, .int a, v3] st I J Q = Rn S 164 61 [v0, zkl v1, .int (a + 1), v3] st I J Q := rL f164_58 rfl rfl
theorem x164_61 : Rn S 164 61 [v0, v1, v2, v3] st I J Q = Rn S 164 21 [v0, v1, v2, v3] st I J Q := rB f164_61 rfl rfl rfl
theorem x164_64 : Rn S 164 64 [v0, v1, v2, v3] st I J Q = Rn S 164 65 [v0, v1, v2, v3] (.int 0 :: st) I J Q := rS f164_64 rfl
theorem x164_65 : Rn S 164 65 [v0, v1, v2, v3] (.int a :: st) I J Q = Rn S 164 66 [v0, zkl v1, .int a, v3] st I J Q := rL f164_65 rfl rfl
theorem h164_66 : Rn S 164 66 [v0, v1, .int a, v3] st I J Q = Rn S 164 67 [v0, v1, .int a, v3] (.int a :: st) I J Q := rL f164_66 rfl rfl
theorem x164_67 : Rn S 164 67 [.ref q, v1, v2, v3] st I J Q = Rn S 164 68 [.ref q, v1, v2, v3] (.ref q :: st) I J Q := rL f164_67 rfl rfl
theorem x164_68_65 : Rn (zG xl) 164 68 [v0, v1, v2, v3] (.ref 65 :: st) I J Q = Rn (zG xl) 164 71 [v0, v1, v2, v3] (.int (I 65 14) :: st) I J Q := (rGf f164_68 rfl).trans (tr_and rfl)
theorem x164_71 : Rn S 164 71 [v0, v1, v2, v3] (.int b :: .int a :: st) I J Q = if a < b then Rn S 164 74 [v0, v1, v2, v3] st I J Q else Rn S 164 131 [v0, v1, v2, v3] st I J Q := rCge f164_71 rfl rfl
theorem x164_74 : Rn S 164 74 [v0, v1, .int a, v3] st I J Q = Rn S 164 75 [v0, v1, .int a, v3] (.int a :: st) I J Q := rL f164_74 rfl rfl
theorem x164_75 : Rn S 164 75 [v0, v1, v2, v3] st I J Q = Rn S 164 76 [v0, v1, v2, v3] (.int 1 :: st) I J Q := rS f164_75 rfl
theorem x164_76 : Rn S 164 76 [v0, v1, v2, v3] (.int b :: .int a :: st) I J Q = Rn S 164 77 [v0, v1, v2, v3] (.int (a + b) :: st) I J Q := rS f164_76 rfl
theorem x164_77 : Rn S 164 77 [v0, v1, v2, v3] (.int a :: st) I J Q = Rn S 164 78 [v0, v1, zkl v2, .int a] st I J Q := rL f164_77 rfl rfl
theorem h164_78 : Rn S 164 78 [v0, v1, v2, .int a] st I J Q = Rn S 164 79 [v0, v1, v2, .int a] (.int a :: st) I J Q := rL f164_78 rfl rfl
theorem x164_79 : Rn S 164 79 [.ref q, v1, v2, v3] st I J Q = Rn S 164 80 [.ref q, v1, v2, v3] (.ref q :: st) I J Q := rL f164_79 rfl rfl
theorem x164_80_65 : Rn (zG xl) 164 80 [v0, v1, v2, v3] (.ref 65 :: st) I J Q = Rn (zG xl) 164 83 [v0, v1, v2, v3] (.int (I 65 14) :: st) I J Q := (rGf f164_80 rfl).trans (tr_and rfl)
theorem x164_83 : Rn S 164 83 [v0, v1, v2, v3] (.int b :: .int a :: st) I J Q = if a < b then Rn S 164 86 [v0, v1, v2, v3] st I J Q else Rn S 164 125 [v0, v1, v2, v3] st I J Q := rCge f164_83 rfl rfl
theorem x164_86 : Rn S 164 86 [.ref q, v1, v2, v3] st I J Q = Rn S 164 87 [.ref q, v1, v2, v3] (.ref q :: st) I J Q := rL f164_86 rfl rfl
theorem x164_87 : Rn S 164 87 [v0, v1, v2, v3] st I J Q = Rn S 164 88 [v0, v1, v2, v3] (.int 1 :: st) I J Q := rS f164_87 rfl
theorem x164_88 : Rn S 164 88 [v0, v1, .int a, v3] st I J Q = Rn S 164 89 [v0, v1, .int a, v3] (.int a :: st) I J Q := rL f164_88 rfl rfl
theorem x164_89 : Rn S 164 89 [v0, v1, v2, v3] (.int b :: .int a :: st) I J Q = Rn S 164 90 [v0, v1, v2, v3] (.int (a <<< (b &&& 31)) :: st) I J Q := rS f164_89 rfl
theorem x164_90 : Rn S 164 90 [v0, v1, v2, v3] st I J Q = Rn S 164 91 [v0, v1, v2, v3] (.int 1 :: st) I J Q := rS f164_90 rfl
theorem x164_91 : Rn S 164 91 [v0, v1, v2, .int a] st I J Q = Rn S 164 92 [v0, v1, v2, .int a] (.int a :: st) I J Q := rL f164_91 rfl rfl
theorem x164_92 : Rn S 164 92 [v0, v1, v2, v3] (.int b :: .int a :: st) I J Q = Rn S 164 93 [v0, v1, v2, v3] (.int (a <<< (b &&& 31)) :: st) I J Q := rS f164_92 rfl
theorem x164_93 : Rn S 164 93 [v0, v1, v2, v3] (.int b :: .int a :: st) I J Q = Rn S 164 94 [v0, v1, v2, v3] (.int (a ||| b) :: st) I J Q := rS f164_93 rfl
theorem x164_94 : Rn S 164 94 [v0, v1, v2, v3] (.int a0 :: .ref q :: st) I J Q = ((zcls S q = 6 ∧ zcs st ≤ 8) ∧ Rn S 163 0 [.ref q, .int a0] [] I J (fun v I' J' => Rn S 164 97 [v0, v1, v2, v3] (v.toList ++ st) I' J' Q)) := rCV (As := [.int a0]) f164_94 rfl rfl rfl rfl (Nat.le_of_ble_eq_true rfl)
theorem x164_97 : Rn S 164 97 [v0, v1, v2, v3] (.int a :: st) I J Q = if a = 0 then Rn S 164 119 [v0, v1, v2, v3] st I J Q else Rn S 164 100 [v0, v1, v2, v3] st I J Q := rIeq f164_97 rfl rfl
theorem x164_100 : Rn S 164 100 [v0, .int a, v2, v3] st I J Q = Rn S 164 101 [v0, .int a, v2, v3] (.int a :: st) I J Q := rL f164_100 rfl rfl
theorem x164_101 : Rn S 164 101 [v0, v1, v2, v3] st I J Q = Rn S 164 102 [v0, v1, v2, v3] (.int (-1) :: st) I J Q := rS f164_101 rfl
theorem x164_102 : Rn S 164 102 [v0, v1, v2, v3] (.int b :: .int a :: st) I J Q = if a = b then Rn S 164 105 [v0, v1, v2, v3] st I J Q else Rn S 164 109 [v0, v1, v2, v3] st I J Q := rCne f164_102 rfl rfl
theorem x164_105 : Rn S 164 105 [v0, v1, v2, v3] st I J Q = Rn S 164 106 [v0, v1, v2, v3] (.int 2 :: st) I J Q := rS f164_105 rfl
theorem x164_106 : Rn S 164 106 [v0, v1, v2, v3] st I J Q = Rn S 164 118 [v0, v1, v2, v3] st I J Q := rB f164_106 rfl rfl rfl
theorem x164_109 : Rn S 164 109 [v0, .int a, v2, v3] st I J Q = Rn S 164 110 [v0, .int a, v2, v3] (.int a :: st) I J Q := rL f164_109 rfl rfl
theorem x164_110 : Rn S 164 110 [v0, v1, v2, v3] (.int a :: st) I J Q = if a = 0 then Rn S 164 113 [v0, v1, v2, v3] st I J Q else Rn S 164 117 [v0, v1, v2, v3] st I J Q := rIne f164_110 rfl rfl
theorem x164_113 : Rn S 164 113 [v0, v1, .int a, v3] st I J Q = Rn S 164 114 [v0, v1, .int a, v3] (.int a :: st) I J Q := rL f164_113 rfl rfl
theorem x164_114 : Rn S 164 114 [v0, v1, v2, v3] st I J Q = Rn S 164 118 [v0, v1, v2, v3] st I J Q := rB f164_114 rfl rfl rfl
theorem x164_117 : Rn S 164 117 [v0, v1, v2, .int a] st I J Q = Rn S 164 118 [v0, v1, v2, .int a] (.int a :: st) I J Q := rL f164_117 rfl rfl
theorem x164_118 : Rn S 164 118 [v0, v1, v2, v3] [.int a] I J Q = Q (some (.int a)) I J := rR f164_118 rfl rfl rfl rfl rfl
theorem x164_119 : Rn S 164 119 [v0, v1, v2, .int a] st I J Q = Rn S 164 122 [v0, v1, zkl v2, .int (a + 1)] st I J Q := rL f164_119 rfl rfl
theorem x164_122 : Rn S 164 122 [v0, v1, v2, v3] st I J Q = Rn S 164 78 [v0, v1, v2, v3] st I J Q := rB f164_122 rfl rfl rfl
theorem x164_125 : Rn S 164 125 [v0, v1, .int a, v3] st I J Q = Rn S 164 128 [v0, zkl v1, .int (a + 1), v3] st I J Q := rL f164_125 rfl rfl
theorem x164_128 : Rn S 164 128 [v0, v1, v2, v3] st I J Q = Rn S 164 66 [v0, v1, v2, v3] st I J Q := rB f164_128 rfl rfl rfl
theorem x164_131 : Rn S 164 131 [v0, v1, v2, v3] st I J Q = Rn S 164 132 [v0, v1, v2, v3] (.int (-1) :: st) I J Q := rS f164_131 rfl
theorem x164_132 : Rn S 164 132 [v0, v1, v2, v3] [.int a] I J Q = Q (some (.int a)) I J := rR f164_132 rfl rfl rfl rfl rfl
/-! X6.hush: 165 -/
theorem B165 : zB 165 = cX6_hush := rfl
theorem f165_0 : zft 165 0 = some (.aload_n 0, 1) := fet B165 (by decide +kernel) (Or.inr rfl)
theorem f165_1 : zft 165 1 = some (.invokevirtual 205, 3) := fet B165 (by decide +kernel) (Or.inr rfl)
theorem f165_4 : zft 165 4 = some (.iload_n 1, 1) := fet B165 (by decide +kernel) (Or.inr rfl)
theorem f165_5 : zft 165 5 = some (.i2l, 1) := fet B165 (by decide +kernel) (Or.inr rfl)
theorem f165_6 : zft 165 6 = some (.ldc2_w 251, 3) := fet B165 (by decide +kernel) (Or.inr rfl)
theorem f165_9 : zft 165 9 = some (.lconst 1, 1) := fet B165 (by decide +kernel) (Or.inr rfl)
theorem f165_10 : zft 165 10 = some (.invokestatic 86, 3) := fet B165 (by decide +kernel) (Or.inr rfl)
theorem f165_13 : zft 165 13 = some (.ifCond .eq 11, 3) := fet B165 (by decide +kernel) (Or.inr rfl)
theorem f165_16 : zft 165 16 = some (.aload_n 0, 1) := fet B165 (by decide +kernel) (Or.inr rfl)
theorem f165_17 : zft 165 17 = some (.iload_n 1, 1) := fet B165 (by decide +kernel) (Or.inr rfl)
theorem f165_18 : zft 165 18 = some (.invokevirtual 253, 3) := fet B165 (by decide +kernel) (Or.inr rfl)
theorem f165_21 : zft 165 21 = some (.goto 5, 3) := fet B165 (by decide +kernel) (Or.inr rfl)
theorem f165_24 : zft 165 24 = some (.bipush (-2), 2) := fet B165 (by decide +kernel) (Or.inr rfl)
theorem f165_26 : zft 165 26 = some (.ireturn, 1) := fet B165 (by decide +kernel) (Or.inr rfl)
theorem x165_0 : Rn S 165 0 [.ref q, v1] st I J Q = Rn S 165 1 [.ref q, v1] (.ref q :: st) I J Q := rL f165_0 rfl rfl
theorem x165_1 : Rn S 165 1 [v0, v1] (.ref q :: st) I J Q = ((zcls S q = 6 ∧ zcs st ≤ 8) ∧ Rn S 141 0 [.ref q] [] I J (fun v I' J' => Rn S 165 4 [v0, v1] (v.toList ++ st) I' J' Q)) := rCV (As := []) f165_1 rfl rfl rfl rfl (Nat.le_of_ble_eq_true rfl)
theorem x165_4 : Rn S 165 4 [v0, .int a] st I J Q = Rn S 165 5 [v0, .int a] (.int a :: st) I J Q := rL f165_4 rfl rfl
theorem x165_5 : Rn S 165 5 [v0, v1] (.int a :: st) I J Q = Rn S 165 6 [v0, v1] (.long a.toInt64 :: st) I J Q := rS f165_5 rfl
theorem x165_6 : Rn S 165 6 [v0, v1] st I J Q = Rn S 165 9 [v0, v1] (.long (-1) :: st) I J Q := rS f165_6 rfl
theorem x165_9 : Rn S 165 9 [v0, v1] st I J Q = Rn S 165 10 [v0, v1] (.long 1 :: st) I J Q := rS f165_9 rfl
theorem x165_10 : Rn S 165 10 [v0, v1] (.long u2 :: .long u1 :: .long u0 :: st) I J Q = (zcs st ≤ 8 ∧ Rn S 96 0 [.long u0, .null, .long u1, .null, .long u2, .null] [] I J (fun v I' J' => Rn S 165 13 [v0, v1] (v.toList ++ st) I' J' Q)) := rCS (As := [.long u0, .long u1, .long u2]) f165_10 rfl rfl rfl rfl (Nat.le_of_ble_eq_true rfl)
theorem x165_13 : Rn S 165 13 [v0, v1] (.int a :: st) I J Q = if a = 0 then Rn S 165 24 [v0, v1] st I J Q else Rn S 165 16 [v0, v1] st I J Q := rIeq f165_13 rfl rfl
theorem x165_16 : Rn S 165 16 [.ref q, v1] st I J Q = Rn S 165 17 [.ref q, v1] (.ref q :: st) I J Q := rL f165_16 rfl rfl
theorem x165_17 : Rn S 165 17 [v0, .int a] st I J Q = Rn S 165 18 [v0, .int a] (.int a :: st) I J Q := rL f165_17 rfl rfl
theorem x165_18 : Rn S 165 18 [v0, v1] (.int a0 :: .ref q :: st) I J Q = ((zcls S q = 6 ∧ zcs st ≤ 8) ∧ Rn S 164 0 [.ref q, .int a0, .null, .null] [] I J (fun v I' J' => Rn S 165 21 [v0, v1] (v.toList ++ st) I' J' Q)) := rCV (As := [.int a0]) f165_18 rfl rfl rfl rfl (Nat.le_of_ble_eq_true rfl)
theorem x165_21 : Rn S 165 21 [v0, v1] st I J Q = Rn S 165 26 [v0, v1] st I J Q := rB f165_21 rfl rfl rfl
theorem x165_24 : Rn S 165 24 [v0, v1] st I J Q = Rn S 165 26 [v0, v1] (.int (-2) :: st) I J Q := rS f165_24 rfl
theorem x165_26 : Rn S 165 26 [v0, v1] [.int a] I J Q = Q (some (.int a)) I J := rR f165_26 rfl rfl rfl rfl rfl
/-! X6.seen: 166 -/
theorem B166 : zB 166 = cX6_seen := rfl
theorem f166_0 : zft 166 0 = some (.iload_n 1, 1) := fet B166 (by decide +kernel) (Or.inr rfl)
theorem f166_1 : zft 166 1 = some (.invokestatic 176, 3) := fet B166 (by decide +kernel) (Or.inr rfl)
theorem f166_4 : zft 166 4 = some (.ifCond .eq 22, 3) := fet B166 (by decide +kernel) (Or.inr rfl)
theorem f166_7 : zft 166 7 = some (.iload_n 2, 1) := fet B166 (by decide +kernel) (Or.inr rfl)
theorem f166_8 : zft 166 8 = some (.i2l, 1) := fet B166 (by decide +kernel) (Or.inr rfl)
theorem f166_9 : zft 166 9 = some (.lconst 0, 1) := fet B166 (by decide +kernel) (Or.inr rfl)
theorem f166_10 : zft 166 10 = some (.ldc2_w 256, 3) := fet B166 (by decide +kernel) (Or.inr rfl)
theorem f166_13 : zft 166 13 = some (.invokestatic 86, 3) := fet B166 (by decide +kernel) (Or.inr rfl)
theorem f166_16 : zft 166 16 = some (.ifCond .eq 10, 3) := fet B166 (by decide +kernel) (Or.inr rfl)
theorem f166_19 : zft 166 19 = some (.iload_n 3, 1) := fet B166 (by decide +kernel) (Or.inr rfl)
theorem f166_20 : zft 166 20 = some (.invokestatic 164, 3) := fet B166 (by decide +kernel) (Or.inr rfl)
theorem f166_23 : zft 166 23 = some (.ifCond .ne 6, 3) := fet B166 (by decide +kernel) (Or.inr rfl)
theorem f166_26 : zft 166 26 = some (.bipush (-2), 2) := fet B166 (by decide +kernel) (Or.inr rfl)
theorem f166_28 : zft 166 28 = some (.ireturn, 1) := fet B166 (by decide +kernel) (Or.inr rfl)
theorem f166_29 : zft 166 29 = some (.aload_n 0, 1) := fet B166 (by decide +kernel) (Or.inr rfl)
theorem f166_30 : zft 166 30 = some (.getfield 258, 3) := fet B166 (by decide +kernel) (Or.inr rfl)
theorem f166_33 : zft 166 33 = some (.bipush 8, 2) := fet B166 (by decide +kernel) (Or.inr rfl)
theorem f166_35 : zft 166 35 = some (.if_icmp .ne 6, 3) := fet B166 (by decide +kernel) (Or.inr rfl)
theorem f166_38 : zft 166 38 = some (.bipush (-4), 2) := fet B166 (by decide +kernel) (Or.inr rfl)
theorem f166_40 : zft 166 40 = some (.ireturn, 1) := fet B166 (by decide +kernel) (Or.inr rfl)
theorem f166_41 : zft 166 41 = some (.aload_n 0, 1) := fet B166 (by decide +kernel) (Or.inr rfl)
theorem f166_42 : zft 166 42 = some (.getfield 74, 3) := fet B166 (by decide +kernel) (Or.inr rfl)
theorem f166_45 : zft 166 45 = some (.iconst 3, 1) := fet B166 (by decide +kernel) (Or.inr rfl)
theorem f166_46 : zft 166 46 = some (.aload_n 0, 1) := fet B166 (by decide +kernel) (Or.inr rfl)
theorem f166_47 : zft 166 47 = some (.getfield 258, 3) := fet B166 (by decide +kernel) (Or.inr rfl)
theorem f166_50 : zft 166 50 = some (.imul, 1) := fet B166 (by decide +kernel) (Or.inr rfl)
theorem f166_51 : zft 166 51 = some (.iload_n 1, 1) := fet B166 (by decide +kernel) (Or.inr rfl)
theorem f166_52 : zft 166 52 = some (.iastore, 1) := fet B166 (by decide +kernel) (Or.inr rfl)
theorem f166_53 : zft 166 53 = some (.aload_n 0, 1) := fet B166 (by decide +kernel) (Or.inr rfl)
theorem f166_54 : zft 166 54 = some (.getfield 74, 3) := fet B166 (by decide +kernel) (Or.inr rfl)
theorem f166_57 : zft 166 57 = some (.iconst 3, 1) := fet B166 (by decide +kernel) (Or.inr rfl)
theorem f166_58 : zft 166 58 = some (.aload_n 0, 1) := fet B166 (by decide +kernel) (Or.inr rfl)
theorem f166_59 : zft 166 59 = some (.getfield 258, 3) := fet B166 (by decide +kernel) (Or.inr rfl)
theorem f166_62 : zft 166 62 = some (.imul, 1) := fet B166 (by decide +kernel) (Or.inr rfl)
theorem f166_63 : zft 166 63 = some (.iconst 1, 1) := fet B166 (by decide +kernel) (Or.inr rfl)
theorem f166_64 : zft 166 64 = some (.iadd, 1) := fet B166 (by decide +kernel) (Or.inr rfl)
theorem f166_65 : zft 166 65 = some (.iload_n 2, 1) := fet B166 (by decide +kernel) (Or.inr rfl)
theorem f166_66 : zft 166 66 = some (.iastore, 1) := fet B166 (by decide +kernel) (Or.inr rfl)
theorem f166_67 : zft 166 67 = some (.aload_n 0, 1) := fet B166 (by decide +kernel) (Or.inr rfl)
theorem f166_68 : zft 166 68 = some (.getfield 74, 3) := fet B166 (by decide +kernel) (Or.inr rfl)
theorem f166_71 : zft 166 71 = some (.iconst 3, 1) := fet B166 (by decide +kernel) (Or.inr rfl)
theorem f166_72 : zft 166 72 = some (.aload_n 0, 1) := fet B166 (by decide +kernel) (Or.inr rfl)
theorem f166_73 : zft 166 73 = some (.getfield 258, 3) := fet B166 (by decide +kernel) (Or.inr rfl)
theorem f166_76 : zft 166 76 = some (.imul, 1) := fet B166 (by decide +kernel) (Or.inr rfl)
theorem f166_77 : zft 166 77 = some (.iconst 2, 1) := fet B166 (by decide +kernel) (Or.inr rfl)
theorem f166_78 : zft 166 78 = some (.iadd, 1) := fet B166 (by decide +kernel) (Or.inr rfl)
theorem f166_79 : zft 166 79 = some (.iload_n 3, 1) := fet B166 (by decide +kernel) (Or.inr rfl)
theorem f166_80 : zft 166 80 = some (.iastore, 1) := fet B166 (by decide +kernel) (Or.inr rfl)
theorem f166_81 : zft 166 81 = some (.aload_n 0, 1) := fet B166 (by decide +kernel) (Or.inr rfl)
theorem f166_82 : zft 166 82 = some (.dup, 1) := fet B166 (by decide +kernel) (Or.inr rfl)
theorem f166_83 : zft 166 83 = some (.getfield 258, 3) := fet B166 (by decide +kernel) (Or.inr rfl)
theorem f166_86 : zft 166 86 = some (.iconst 1, 1) := fet B166 (by decide +kernel) (Or.inr rfl)
theorem f166_87 : zft 166 87 = some (.iadd, 1) := fet B166 (by decide +kernel) (Or.inr rfl)
theorem f166_88 : zft 166 88 = some (.putfield 258, 3) := fet B166 (by decide +kernel) (Or.inr rfl)
theorem f166_91 : zft 166 91 = some (.aload_n 0, 1) := fet B166 (by decide +kernel) (Or.inr rfl)
theorem f166_92 : zft 166 92 = some (.getfield 258, 3) := fet B166 (by decide +kernel) (Or.inr rfl)
theorem f166_95 : zft 166 95 = some (.ireturn, 1) := fet B166 (by decide +kernel) (Or.inr rfl)
theorem x166_0 : Rn S 166 0 [v0, .int a, v2, v3] st I J Q = Rn S 166 1 [v0, .int a, v2, v3] (.int a :: st) I J Q := rL f166_0 rfl rfl
theorem x166_1 : Rn S 166 1 [v0, v1, v2, v3] (.int a0 :: st) I J Q = (zcs st ≤ 8 ∧ Rn S 128 0 [.int a0] [] I J (fun v I' J' => Rn S 166 4 [v0, v1, v2, v3] (v.toList ++ st) I' J' Q)) := rCS (As := [.int a0]) f166_1 rfl rfl rfl rfl (Nat.le_of_ble_eq_true rfl)
theorem x166_4 : Rn S 166 4 [v0, v1, v2, v3] (.int a :: st) I J Q = if a = 0 then Rn S 166 26 [v0, v1, v2, v3] st I J Q else Rn S 166 7 [v0, v1, v2, v3] st I J Q := rIeq f166_4 rfl rfl
theorem x166_7 : Rn S 166 7 [v0, v1, .int a, v3] st I J Q = Rn S 166 8 [v0, v1, .int a, v3] (.int a :: st) I J Q := rL f166_7 rfl rfl
theorem x166_8 : Rn S 166 8 [v0, v1, v2, v3] (.int a :: st) I J Q = Rn S 166 9 [v0, v1, v2, v3] (.long a.toInt64 :: st) I J Q := rS f166_8 rfl
theorem x166_9 : Rn S 166 9 [v0, v1, v2, v3] st I J Q = Rn S 166 10 [v0, v1, v2, v3] (.long 0 :: st) I J Q := rS f166_9 rfl
theorem x166_10 : Rn S 166 10 [v0, v1, v2, v3] st I J Q = Rn S 166 13 [v0, v1, v2, v3] (.long 9 :: st) I J Q := rS f166_10 rfl
theorem x166_13 : Rn S 166 13 [v0, v1, v2, v3] (.long u2 :: .long u1 :: .long u0 :: st) I J Q = (zcs st ≤ 8 ∧ Rn S 96 0 [.long u0, .null, .long u1, .null, .long u2, .null] [] I J (fun v I' J' => Rn S 166 16 [v0, v1, v2, v3] (v.toList ++ st) I' J' Q)) := rCS (As := [.long u0, .long u1, .long u2]) f166_13 rfl rfl rfl rfl (Nat.le_of_ble_eq_true rfl)
theorem x166_16 : Rn S 166 16 [v0, v1, v2, v3] (.int a :: st) I J Q = if a = 0 then Rn S 166 26 [v0, v1, v2, v3] st I J Q else Rn S 166 19 [v0, v1, v2, v3] st I J Q := rIeq f166_16 rfl rfl
theorem x166_19 : Rn S 166 19 [v0, v1, v2, .int a] st I J Q = Rn S 166 20 [v0, v1, v2, .int a] (.int a :: st) I J Q := rL f166_19 rfl rfl
theorem x166_20 : Rn S 166 20 [v0, v1, v2, v3] (.int a0 :: st) I J Q = (zcs st ≤ 8 ∧ Rn S 98 0 [.int a0] [] I J (fun v I' J' => Rn S 166 23 [v0, v1, v2, v3] (v.toList ++ st) I' J' Q)) := rCS (As := [.int a0]) f166_20 rfl rfl rfl rfl (Nat.le_of_ble_eq_true rfl)
theorem x166_23 : Rn S 166 23 [v0, v1, v2, v3] (.int a :: st) I J Q = if a = 0 then Rn S 166 26 [v0, v1, v2, v3] st I J Q else Rn S 166 29 [v0, v1, v2, v3] st I J Q := rIne f166_23 rfl rfl
theorem x166_26 : Rn S 166 26 [v0, v1, v2, v3] st I J Q = Rn S 166 28 [v0, v1, v2, v3] (.int (-2) :: st) I J Q := rS f166_26 rfl
theorem x166_28 : Rn S 166 28 [v0, v1, v2, v3] [.int a] I J Q = Q (some (.int a)) I J := rR f166_28 rfl rfl rfl rfl rfl
theorem x166_29 : Rn S 166 29 [.ref q, v1, v2, v3] st I J Q = Rn S 166 30 [.ref q, v1, v2, v3] (.ref q :: st) I J Q := rL f166_29 rfl rfl
theorem x166_30_65 : Rn (zG xl) 166 30 [v0, v1, v2, v3] (.ref 65 :: st) I J Q = Rn (zG xl) 166 33 [v0, v1, v2, v3] (.int (I 65 28) :: st) I J Q := (rGf f166_30 rfl).trans (tr_and rfl)
theorem x166_33 : Rn S 166 33 [v0, v1, v2, v3] st I J Q = Rn S 166 35 [v0, v1, v2, v3] (.int 8 :: st) I J Q := rS f166_33 rfl
theorem x166_35 : Rn S 166 35 [v0, v1, v2, v3] (.int b :: .int a :: st) I J Q = if a = b then Rn S 166 38 [v0, v1, v2, v3] st I J Q else Rn S 166 41 [v0, v1, v2, v3] st I J Q := rCne f166_35 rfl rfl
theorem x166_38 : Rn S 166 38 [v0, v1, v2, v3] st I J Q = Rn S 166 40 [v0, v1, v2, v3] (.int (-4) :: st) I J Q := rS f166_38 rfl
theorem x166_40 : Rn S 166 40 [v0, v1, v2, v3] [.int a] I J Q = Q (some (.int a)) I J := rR f166_40 rfl rfl rfl rfl rfl
theorem x166_41 : Rn S 166 41 [.ref q, v1, v2, v3] st I J Q = Rn S 166 42 [.ref q, v1, v2, v3] (.ref q :: st) I J Q := rL f166_41 rfl rfl
theorem x166_42_65 : Rn (zG xl) 166 42 [v0, v1, v2, v3] (.ref 65 :: st) I J Q = Rn (zG xl) 166 45 [v0, v1, v2, v3] (.ref 87 :: st) I J Q := (rGf f166_42 rfl).trans (tr_and rfl)
theorem x166_45 : Rn S 166 45 [v0, v1, v2, v3] st I J Q = Rn S 166 46 [v0, v1, v2, v3] (.int 3 :: st) I J Q := rS f166_45 rfl
theorem x166_46 : Rn S 166 46 [.ref q, v1, v2, v3] st I J Q = Rn S 166 47 [.ref q, v1, v2, v3] (.ref q :: st) I J Q := rL f166_46 rfl rfl
theorem x166_47_65 : Rn (zG xl) 166 47 [v0, v1, v2, v3] (.ref 65 :: st) I J Q = Rn (zG xl) 166 50 [v0, v1, v2, v3] (.int (I 65 28) :: st) I J Q := (rGf f166_47 rfl).trans (tr_and rfl)
theorem x166_50 : Rn S 166 50 [v0, v1, v2, v3] (.int b :: .int a :: st) I J Q = Rn S 166 51 [v0, v1, v2, v3] (.int (a * b) :: st) I J Q := rS f166_50 rfl
theorem x166_51 : Rn S 166 51 [v0, .int a, v2, v3] st I J Q = Rn S 166 52 [v0, .int a, v2, v3] (.int a :: st) I J Q := rL f166_51 rfl rfl
theorem x166_52 : Rn S 166 52 [v0, v1, v2, v3] (.int b :: .int a :: .ref q :: st) I J Q = (zas S q a ∧ Rn S 166 53 [v0, v1, v2, v3] st (zr I q (upd (I q) a.toNatClampNeg b)) J Q) := rIas f166_52
theorem x166_53 : Rn S 166 53 [.ref q, v1, v2, v3] st I J Q = Rn S 166 54 [.ref q, v1, v2, v3] (.ref q :: st) I J Q := rL f166_53 rfl rfl
theorem x166_54_65 : Rn (zG xl) 166 54 [v0, v1, v2, v3] (.ref 65 :: st) I J Q = Rn (zG xl) 166 57 [v0, v1, v2, v3] (.ref 87 :: st) I J Q := (rGf f166_54 rfl).trans (tr_and rfl)
theorem x166_57 : Rn S 166 57 [v0, v1, v2, v3] st I J Q = Rn S 166 58 [v0, v1, v2, v3] (.int 3 :: st) I J Q := rS f166_57 rfl
theorem x166_58 : Rn S 166 58 [.ref q, v1, v2, v3] st I J Q = Rn S 166 59 [.ref q, v1, v2, v3] (.ref q :: st) I J Q := rL f166_58 rfl rfl
theorem x166_59_65 : Rn (zG xl) 166 59 [v0, v1, v2, v3] (.ref 65 :: st) I J Q = Rn (zG xl) 166 62 [v0, v1, v2, v3] (.int (I 65 28) :: st) I J Q := (rGf f166_59 rfl).trans (tr_and rfl)
theorem x166_62 : Rn S 166 62 [v0, v1, v2, v3] (.int b :: .int a :: st) I J Q = Rn S 166 63 [v0, v1, v2, v3] (.int (a * b) :: st) I J Q := rS f166_62 rfl
theorem x166_63 : Rn S 166 63 [v0, v1, v2, v3] st I J Q = Rn S 166 64 [v0, v1, v2, v3] (.int 1 :: st) I J Q := rS f166_63 rfl
theorem x166_64 : Rn S 166 64 [v0, v1, v2, v3] (.int b :: .int a :: st) I J Q = Rn S 166 65 [v0, v1, v2, v3] (.int (a + b) :: st) I J Q := rS f166_64 rfl
theorem x166_65 : Rn S 166 65 [v0, v1, .int a, v3] st I J Q = Rn S 166 66 [v0, v1, .int a, v3] (.int a :: st) I J Q := rL f166_65 rfl rfl
theorem x166_66 : Rn S 166 66 [v0, v1, v2, v3] (.int b :: .int a :: .ref q :: st) I J Q = (zas S q a ∧ Rn S 166 67 [v0, v1, v2, v3] st (zr I q (upd (I q) a.toNatClampNeg b)) J Q) := rIas f166_66
theorem x166_67 : Rn S 166 67 [.ref q, v1, v2, v3] st I J Q = Rn S 166 68 [.ref q, v1, v2, v3] (.ref q :: st) I J Q := rL f166_67 rfl rfl
theorem x166_68_65 : Rn (zG xl) 166 68 [v0, v1, v2, v3] (.ref 65 :: st) I J Q = Rn (zG xl) 166 71 [v0, v1, v2, v3] (.ref 87 :: st) I J Q := (rGf f166_68 rfl).trans (tr_and rfl)
theorem x166_71 : Rn S 166 71 [v0, v1, v2, v3] st I J Q = Rn S 166 72 [v0, v1, v2, v3] (.int 3 :: st) I J Q := rS f166_71 rfl
theorem x166_72 : Rn S 166 72 [.ref q, v1, v2, v3] st I J Q = Rn S 166 73 [.ref q, v1, v2, v3] (.ref q :: st) I J Q := rL f166_72 rfl rfl
theorem x166_73_65 : Rn (zG xl) 166 73 [v0, v1, v2, v3] (.ref 65 :: st) I J Q = Rn (zG xl) 166 76 [v0, v1, v2, v3] (.int (I 65 28) :: st) I J Q := (rGf f166_73 rfl).trans (tr_and rfl)
theorem x166_76 : Rn S 166 76 [v0, v1, v2, v3] (.int b :: .int a :: st) I J Q = Rn S 166 77 [v0, v1, v2, v3] (.int (a * b) :: st) I J Q := rS f166_76 rfl
theorem x166_77 : Rn S 166 77 [v0, v1, v2, v3] st I J Q = Rn S 166 78 [v0, v1, v2, v3] (.int 2 :: st) I J Q := rS f166_77 rfl
theorem x166_78 : Rn S 166 78 [v0, v1, v2, v3] (.int b :: .int a :: st) I J Q = Rn S 166 79 [v0, v1, v2, v3] (.int (a + b) :: st) I J Q := rS f166_78 rfl
theorem x166_79 : Rn S 166 79 [v0, v1, v2, .int a] st I J Q = Rn S 166 80 [v0, v1, v2, .int a] (.int a :: st) I J Q := rL f166_79 rfl rfl
theorem x166_80 : Rn S 166 80 [v0, v1, v2, v3] (.int b :: .int a :: .ref q :: st) I J Q = (zas S q a ∧ Rn S 166 81 [v0, v1, v2, v3] st (zr I q (upd (I q) a.toNatClampNeg b)) J Q) := rIas f166_80
theorem x166_81 : Rn S 166 81 [.ref q, v1, v2, v3] st I J Q = Rn S 166 82 [.ref q, v1, v2, v3] (.ref q :: st) I J Q := rL f166_81 rfl rfl
theorem x166_82i : Rn S 166 82 [v0, v1, v2, v3] (.int a :: st) I J Q = Rn S 166 83 [v0, v1, v2, v3] (.int a :: .int a :: st) I J Q := rS f166_82 rfl
theorem x166_82r : Rn S 166 82 [v0, v1, v2, v3] (.ref q :: st) I J Q = Rn S 166 83 [v0, v1, v2, v3] (.ref q :: .ref q :: st) I J Q := rS f166_82 rfl
theorem x166_83_65 : Rn (zG xl) 166 83 [v0, v1, v2, v3] (.ref 65 :: st) I J Q = Rn (zG xl) 166 86 [v0, v1, v2, v3] (.int (I 65 28) :: st) I J Q := (rGf f166_83 rfl).trans (tr_and rfl)
theorem x166_86 : Rn S 166 86 [v0, v1, v2, v3] st I J Q = Rn S 166 87 [v0, v1, v2, v3] (.int 1 :: st) I J Q := rS f166_86 rfl
theorem x166_87 : Rn S 166 87 [v0, v1, v2, v3] (.int b :: .int a :: st) I J Q = Rn S 166 88 [v0, v1, v2, v3] (.int (a + b) :: st) I J Q := rS f166_87 rfl
theorem x166_88_65 : Rn (zG xl) 166 88 [v0, v1, v2, v3] (.int a :: .ref 65 :: st) I J Q = Rn (zG xl) 166 91 [v0, v1, v2, v3] st (zr I 65 (upd (I 65) 28 a)) J Q := (rPf f166_88 rfl).trans (tr_pf rfl rfl rfl)
theorem x166_91 : Rn S 166 91 [.ref q, v1, v2, v3] st I J Q = Rn S 166 92 [.ref q, v1, v2, v3] (.ref q :: st) I J Q := rL f166_91 rfl rfl
theorem x166_92_65 : Rn (zG xl) 166 92 [v0, v1, v2, v3] (.ref 65 :: st) I J Q = Rn (zG xl) 166 95 [v0, v1, v2, v3] (.int (I 65 28) :: st) I J Q := (rGf f166_92 rfl).trans (tr_and rfl)
theorem x166_95 : Rn S 166 95 [v0, v1, v2, v3] [.int a] I J Q = Q (some (.int a)) I J := rR f166_95 rfl rfl rfl rfl rfl
/-! X6.forget: 167 -/
theorem B167 : zB 167 = cX6_forget := rfl
theorem f167_0 : zft 167 0 = some (.aload_n 0, 1) := fet B167 (by decide +kernel) (Or.inr rfl)
theorem f167_1 : zft 167 1 = some (.getfield 258, 3) := fet B167 (by decide +kernel) (Or.inr rfl)
theorem f167_4 : zft 167 4 = some (.istore_n 1, 1) := fet B167 (by decide +kernel) (Or.inr rfl)
theorem f167_5 : zft 167 5 = some (.aload_n 0, 1) := fet B167 (by decide +kernel) (Or.inr rfl)
theorem f167_6 : zft 167 6 = some (.iconst 0, 1) := fet B167 (by decide +kernel) (Or.inr rfl)
theorem f167_7 : zft 167 7 = some (.putfield 258, 3) := fet B167 (by decide +kernel) (Or.inr rfl)
theorem f167_10 : zft 167 10 = some (.iload_n 1, 1) := fet B167 (by decide +kernel) (Or.inr rfl)
theorem f167_11 : zft 167 11 = some (.ireturn, 1) := fet B167 (by decide +kernel) (Or.inr rfl)
theorem x167_0 : Rn S 167 0 [.ref q, v1] st I J Q = Rn S 167 1 [.ref q, v1] (.ref q :: st) I J Q := rL f167_0 rfl rfl
theorem x167_1_65 : Rn (zG xl) 167 1 [v0, v1] (.ref 65 :: st) I J Q = Rn (zG xl) 167 4 [v0, v1] (.int (I 65 28) :: st) I J Q := (rGf f167_1 rfl).trans (tr_and rfl)
theorem x167_4 : Rn S 167 4 [v0, v1] (.int a :: st) I J Q = Rn S 167 5 [zkl v0, .int a] st I J Q := rL f167_4 rfl rfl
theorem x167_5 : Rn S 167 5 [.ref q, v1] st I J Q = Rn S 167 6 [.ref q, v1] (.ref q :: st) I J Q := rL f167_5 rfl rfl
theorem x167_6 : Rn S 167 6 [v0, v1] st I J Q = Rn S 167 7 [v0, v1] (.int 0 :: st) I J Q := rS f167_6 rfl
theorem x167_7_65 : Rn (zG xl) 167 7 [v0, v1] (.int a :: .ref 65 :: st) I J Q = Rn (zG xl) 167 10 [v0, v1] st (zr I 65 (upd (I 65) 28 a)) J Q := (rPf f167_7 rfl).trans (tr_pf rfl rfl rfl)
theorem x167_10 : Rn S 167 10 [v0, .int a] st I J Q = Rn S 167 11 [v0, .int a] (.int a :: st) I J Q := rL f167_10 rfl rfl
theorem x167_11 : Rn S 167 11 [v0, v1] [.int a] I J Q = Q (some (.int a)) I J := rR f167_11 rfl rfl rfl rfl rfl
/-! X6.isSeen: 168 -/
theorem B168 : zB 168 = cX6_isSeen := rfl
theorem f168_0 : zft 168 0 = some (.aload_n 0, 1) := fet B168 (by decide +kernel) (Or.inr rfl)
theorem f168_1 : zft 168 1 = some (.invokevirtual 202, 3) := fet B168 (by decide +kernel) (Or.inr rfl)
theorem f168_4 : zft 168 4 = some (.iconst 1, 1) := fet B168 (by decide +kernel) (Or.inr rfl)
theorem f168_5 : zft 168 5 = some (.istore_n 1, 1) := fet B168 (by decide +kernel) (Or.inr rfl)
theorem f168_6 : zft 168 6 = some (.iconst 0, 1) := fet B168 (by decide +kernel) (Or.inr rfl)
theorem f168_7 : zft 168 7 = some (.istore_n 2, 1) := fet B168 (by decide +kernel) (Or.inr rfl)
theorem f168_8 : zft 168 8 = some (.iload_n 2, 1) := fet B168 (by decide +kernel) (Or.inr rfl)
theorem f168_9 : zft 168 9 = some (.aload_n 0, 1) := fet B168 (by decide +kernel) (Or.inr rfl)
theorem f168_10 : zft 168 10 = some (.getfield 258, 3) := fet B168 (by decide +kernel) (Or.inr rfl)
theorem f168_13 : zft 168 13 = some (.if_icmp .ge 76, 3) := fet B168 (by decide +kernel) (Or.inr rfl)
theorem f168_16 : zft 168 16 = some (.aload_n 0, 1) := fet B168 (by decide +kernel) (Or.inr rfl)
theorem f168_17 : zft 168 17 = some (.getfield 74, 3) := fet B168 (by decide +kernel) (Or.inr rfl)
theorem f168_20 : zft 168 20 = some (.iconst 3, 1) := fet B168 (by decide +kernel) (Or.inr rfl)
theorem f168_21 : zft 168 21 = some (.iload_n 2, 1) := fet B168 (by decide +kernel) (Or.inr rfl)
theorem f168_22 : zft 168 22 = some (.imul, 1) := fet B168 (by decide +kernel) (Or.inr rfl)
theorem f168_23 : zft 168 23 = some (.iconst 1, 1) := fet B168 (by decide +kernel) (Or.inr rfl)
theorem f168_24 : zft 168 24 = some (.iadd, 1) := fet B168 (by decide +kernel) (Or.inr rfl)
theorem f168_25 : zft 168 25 = some (.iaload, 1) := fet B168 (by decide +kernel) (Or.inr rfl)
theorem f168_26 : zft 168 26 = some (.istore_n 3, 1) := fet B168 (by decide +kernel) (Or.inr rfl)
theorem f168_27 : zft 168 27 = some (.iload_n 1, 1) := fet B168 (by decide +kernel) (Or.inr rfl)
theorem f168_28 : zft 168 28 = some (.ifCond .eq 53, 3) := fet B168 (by decide +kernel) (Or.inr rfl)
theorem f168_31 : zft 168 31 = some (.aload_n 0, 1) := fet B168 (by decide +kernel) (Or.inr rfl)
theorem f168_32 : zft 168 32 = some (.iload_n 3, 1) := fet B168 (by decide +kernel) (Or.inr rfl)
theorem f168_33 : zft 168 33 = some (.invokevirtual 155, 3) := fet B168 (by decide +kernel) (Or.inr rfl)
theorem f168_36 : zft 168 36 = some (.ifCond .eq 45, 3) := fet B168 (by decide +kernel) (Or.inr rfl)
theorem f168_39 : zft 168 39 = some (.aload_n 0, 1) := fet B168 (by decide +kernel) (Or.inr rfl)
theorem f168_40 : zft 168 40 = some (.aload_n 0, 1) := fet B168 (by decide +kernel) (Or.inr rfl)
theorem f168_41 : zft 168 41 = some (.getfield 74, 3) := fet B168 (by decide +kernel) (Or.inr rfl)
theorem f168_44 : zft 168 44 = some (.iconst 3, 1) := fet B168 (by decide +kernel) (Or.inr rfl)
theorem f168_45 : zft 168 45 = some (.iload_n 2, 1) := fet B168 (by decide +kernel) (Or.inr rfl)
theorem f168_46 : zft 168 46 = some (.imul, 1) := fet B168 (by decide +kernel) (Or.inr rfl)
theorem f168_47 : zft 168 47 = some (.iaload, 1) := fet B168 (by decide +kernel) (Or.inr rfl)
theorem f168_48 : zft 168 48 = some (.invokevirtual 217, 3) := fet B168 (by decide +kernel) (Or.inr rfl)
theorem f168_51 : zft 168 51 = some (.iload_n 3, 1) := fet B168 (by decide +kernel) (Or.inr rfl)
theorem f168_52 : zft 168 52 = some (.invokestatic 187, 3) := fet B168 (by decide +kernel) (Or.inr rfl)
theorem f168_55 : zft 168 55 = some (.aload_n 0, 1) := fet B168 (by decide +kernel) (Or.inr rfl)
theorem f168_56 : zft 168 56 = some (.getfield 74, 3) := fet B168 (by decide +kernel) (Or.inr rfl)
theorem f168_59 : zft 168 59 = some (.iconst 3, 1) := fet B168 (by decide +kernel) (Or.inr rfl)
theorem f168_60 : zft 168 60 = some (.iload_n 2, 1) := fet B168 (by decide +kernel) (Or.inr rfl)
theorem f168_61 : zft 168 61 = some (.imul, 1) := fet B168 (by decide +kernel) (Or.inr rfl)
theorem f168_62 : zft 168 62 = some (.iconst 2, 1) := fet B168 (by decide +kernel) (Or.inr rfl)
theorem f168_63 : zft 168 63 = some (.iadd, 1) := fet B168 (by decide +kernel) (Or.inr rfl)
theorem f168_64 : zft 168 64 = some (.iaload, 1) := fet B168 (by decide +kernel) (Or.inr rfl)
theorem f168_65 : zft 168 65 = some (.iconst 1, 1) := fet B168 (by decide +kernel) (Or.inr rfl)
theorem f168_66 : zft 168 66 = some (.if_icmp .ne 7, 3) := fet B168 (by decide +kernel) (Or.inr rfl)
theorem f168_69 : zft 168 69 = some (.iconst 1, 1) := fet B168 (by decide +kernel) (Or.inr rfl)
theorem f168_70 : zft 168 70 = some (.goto 4, 3) := fet B168 (by decide +kernel) (Or.inr rfl)
theorem f168_73 : zft 168 73 = some (.iconst 0, 1) := fet B168 (by decide +kernel) (Or.inr rfl)
theorem f168_74 : zft 168 74 = some (.if_icmp .ne 7, 3) := fet B168 (by decide +kernel) (Or.inr rfl)
theorem f168_77 : zft 168 77 = some (.iconst 1, 1) := fet B168 (by decide +kernel) (Or.inr rfl)
theorem f168_78 : zft 168 78 = some (.goto 4, 3) := fet B168 (by decide +kernel) (Or.inr rfl)
theorem f168_81 : zft 168 81 = some (.iconst 0, 1) := fet B168 (by decide +kernel) (Or.inr rfl)
theorem f168_82 : zft 168 82 = some (.istore_n 1, 1) := fet B168 (by decide +kernel) (Or.inr rfl)
theorem f168_83 : zft 168 83 = some (.iinc 2 1, 3) := fet B168 (by decide +kernel) (Or.inr rfl)
theorem f168_86 : zft 168 86 = some (.goto (-78), 3) := fet B168 (by decide +kernel) (Or.inr rfl)
theorem f168_89 : zft 168 89 = some (.iload_n 1, 1) := fet B168 (by decide +kernel) (Or.inr rfl)
theorem f168_90 : zft 168 90 = some (.ireturn, 1) := fet B168 (by decide +kernel) (Or.inr rfl)
theorem x168_0 : Rn S 168 0 [.ref q, v1, v2, v3] st I J Q = Rn S 168 1 [.ref q, v1, v2, v3] (.ref q :: st) I J Q := rL f168_0 rfl rfl
theorem x168_1 : Rn S 168 1 [v0, v1, v2, v3] (.ref q :: st) I J Q = ((zcls S q = 6 ∧ zcs st ≤ 8) ∧ Rn S 140 0 [.ref q, .null] [] I J (fun v I' J' => Rn S 168 4 [v0, v1, v2, v3] (v.toList ++ st) I' J' Q)) := rCV (As := []) f168_1 rfl rfl rfl rfl (Nat.le_of_ble_eq_true rfl)
theorem x168_4 : Rn S 168 4 [v0, v1, v2, v3] st I J Q = Rn S 168 5 [v0, v1, v2, v3] (.int 1 :: st) I J Q := rS f168_4 rfl
theorem x168_5 : Rn S 168 5 [v0, v1, v2, v3] (.int a :: st) I J Q = Rn S 168 6 [zkl v0, .int a, v2, v3] st I J Q := rL f168_5 rfl rfl
theorem x168_6 : Rn S 168 6 [v0, v1, v2, v3] st I J Q = Rn S 168 7 [v0, v1, v2, v3] (.int 0 :: st) I J Q := rS f168_6 rfl
theorem x168_7 : Rn S 168 7 [v0, v1, v2, v3] (.int a :: st) I J Q = Rn S 168 8 [v0, zkl v1, .int a, v3] st I J Q := rL f168_7 rfl rfl
theorem h168_8 : Rn S 168 8 [v0, v1, .int a, v3] st I J Q = Rn S 168 9 [v0, v1, .int a, v3] (.int a :: st) I J Q := rL f168_8 rfl rfl
theorem x168_9 : Rn S 168 9 [.ref q, v1, v2, v3] st I J Q = Rn S 168 10 [.ref q, v1, v2, v3] (.ref q :: st) I J Q := rL f168_9 rfl rfl
theorem x168_10_65 : Rn (zG xl) 168 10 [v0, v1, v2, v3] (.ref 65 :: st) I J Q = Rn (zG xl) 168 13 [v0, v1, v2, v3] (.int (I 65 28) :: st) I J Q := (rGf f168_10 rfl).trans (tr_and rfl)
theorem x168_13 : Rn S 168 13 [v0, v1, v2, v3] (.int b :: .int a :: st) I J Q = if a < b then Rn S 168 16 [v0, v1, v2, v3] st I J Q else Rn S 168 89 [v0, v1, v2, v3] st I J Q := rCge f168_13 rfl rfl
theorem x168_16 : Rn S 168 16 [.ref q, v1, v2, v3] st I J Q = Rn S 168 17 [.ref q, v1, v2, v3] (.ref q :: st) I J Q := rL f168_16 rfl rfl
theorem x168_17_65 : Rn (zG xl) 168 17 [v0, v1, v2, v3] (.ref 65 :: st) I J Q = Rn (zG xl) 168 20 [v0, v1, v2, v3] (.ref 87 :: st) I J Q := (rGf f168_17 rfl).trans (tr_and rfl)
theorem x168_20 : Rn S 168 20 [v0, v1, v2, v3] st I J Q = Rn S 168 21 [v0, v1, v2, v3] (.int 3 :: st) I J Q := rS f168_20 rfl
theorem x168_21 : Rn S 168 21 [v0, v1, .int a, v3] st I J Q = Rn S 168 22 [v0, v1, .int a, v3] (.int a :: st) I J Q := rL f168_21 rfl rfl
theorem x168_22 : Rn S 168 22 [v0, v1, v2, v3] (.int b :: .int a :: st) I J Q = Rn S 168 23 [v0, v1, v2, v3] (.int (a * b) :: st) I J Q := rS f168_22 rfl
theorem x168_23 : Rn S 168 23 [v0, v1, v2, v3] st I J Q = Rn S 168 24 [v0, v1, v2, v3] (.int 1 :: st) I J Q := rS f168_23 rfl
theorem x168_24 : Rn S 168 24 [v0, v1, v2, v3] (.int b :: .int a :: st) I J Q = Rn S 168 25 [v0, v1, v2, v3] (.int (a + b) :: st) I J Q := rS f168_24 rfl
theorem x168_25 : Rn S 168 25 [v0, v1, v2, v3] (.int a :: .ref q :: st) I J Q = (zai S q a ∧ Rn S 168 26 [v0, v1, v2, v3] (.int (I q a.toNatClampNeg) :: st) I J Q) := rIal f168_25
theorem x168_26 : Rn S 168 26 [v0, v1, v2, v3] (.int a :: st) I J Q = Rn S 168 27 [v0, v1, zkl v2, .int a] st I J Q := rL f168_26 rfl rfl
theorem x168_27 : Rn S 168 27 [v0, .int a, v2, v3] st I J Q = Rn S 168 28 [v0, .int a, v2, v3] (.int a :: st) I J Q := rL f168_27 rfl rfl
theorem x168_28 : Rn S 168 28 [v0, v1, v2, v3] (.int a :: st) I J Q = if a = 0 then Rn S 168 81 [v0, v1, v2, v3] st I J Q else Rn S 168 31 [v0, v1, v2, v3] st I J Q := rIeq f168_28 rfl rfl
theorem x168_31 : Rn S 168 31 [.ref q, v1, v2, v3] st I J Q = Rn S 168 32 [.ref q, v1, v2, v3] (.ref q :: st) I J Q := rL f168_31 rfl rfl
theorem x168_32 : Rn S 168 32 [v0, v1, v2, .int a] st I J Q = Rn S 168 33 [v0, v1, v2, .int a] (.int a :: st) I J Q := rL f168_32 rfl rfl
theorem x168_33 : Rn S 168 33 [v0, v1, v2, v3] (.int a0 :: .ref q :: st) I J Q = ((zcls S q = 6 ∧ zcs st ≤ 8) ∧ Rn S 126 0 [.ref q, .int a0] [] I J (fun v I' J' => Rn S 168 36 [v0, v1, v2, v3] (v.toList ++ st) I' J' Q)) := rCV (As := [.int a0]) f168_33 rfl rfl rfl rfl (Nat.le_of_ble_eq_true rfl)
theorem x168_36 : Rn S 168 36 [v0, v1, v2, v3] (.int a :: st) I J Q = if a = 0 then Rn S 168 81 [v0, v1, v2, v3] st I J Q else Rn S 168 39 [v0, v1, v2, v3] st I J Q := rIeq f168_36 rfl rfl
theorem x168_39 : Rn S 168 39 [.ref q, v1, v2, v3] st I J Q = Rn S 168 40 [.ref q, v1, v2, v3] (.ref q :: st) I J Q := rL f168_39 rfl rfl
theorem x168_40 : Rn S 168 40 [.ref q, v1, v2, v3] st I J Q = Rn S 168 41 [.ref q, v1, v2, v3] (.ref q :: st) I J Q := rL f168_40 rfl rfl
theorem x168_41_65 : Rn (zG xl) 168 41 [v0, v1, v2, v3] (.ref 65 :: st) I J Q = Rn (zG xl) 168 44 [v0, v1, v2, v3] (.ref 87 :: st) I J Q := (rGf f168_41 rfl).trans (tr_and rfl)
theorem x168_44 : Rn S 168 44 [v0, v1, v2, v3] st I J Q = Rn S 168 45 [v0, v1, v2, v3] (.int 3 :: st) I J Q := rS f168_44 rfl
theorem x168_45 : Rn S 168 45 [v0, v1, .int a, v3] st I J Q = Rn S 168 46 [v0, v1, .int a, v3] (.int a :: st) I J Q := rL f168_45 rfl rfl
theorem x168_46 : Rn S 168 46 [v0, v1, v2, v3] (.int b :: .int a :: st) I J Q = Rn S 168 47 [v0, v1, v2, v3] (.int (a * b) :: st) I J Q := rS f168_46 rfl
theorem x168_47 : Rn S 168 47 [v0, v1, v2, v3] (.int a :: .ref q :: st) I J Q = (zai S q a ∧ Rn S 168 48 [v0, v1, v2, v3] (.int (I q a.toNatClampNeg) :: st) I J Q) := rIal f168_47
theorem x168_48 : Rn S 168 48 [v0, v1, v2, v3] (.int a0 :: .ref q :: st) I J Q = ((zcls S q = 6 ∧ zcs st ≤ 8) ∧ Rn S 148 0 [.ref q, .int a0, .null, .null] [] I J (fun v I' J' => Rn S 168 51 [v0, v1, v2, v3] (v.toList ++ st) I' J' Q)) := rCV (As := [.int a0]) f168_48 rfl rfl rfl rfl (Nat.le_of_ble_eq_true rfl)
theorem x168_51 : Rn S 168 51 [v0, v1, v2, .int a] st I J Q = Rn S 168 52 [v0, v1, v2, .int a] (.int a :: st) I J Q := rL f168_51 rfl rfl
theorem x168_52 : Rn S 168 52 [v0, v1, v2, v3] (.int a1 :: .int a0 :: st) I J Q = (zcs st ≤ 8 ∧ Rn S 99 0 [.int a0, .int a1] [] I J (fun v I' J' => Rn S 168 55 [v0, v1, v2, v3] (v.toList ++ st) I' J' Q)) := rCS (As := [.int a0, .int a1]) f168_52 rfl rfl rfl rfl (Nat.le_of_ble_eq_true rfl)
theorem x168_55 : Rn S 168 55 [.ref q, v1, v2, v3] st I J Q = Rn S 168 56 [.ref q, v1, v2, v3] (.ref q :: st) I J Q := rL f168_55 rfl rfl
theorem x168_56_65 : Rn (zG xl) 168 56 [v0, v1, v2, v3] (.ref 65 :: st) I J Q = Rn (zG xl) 168 59 [v0, v1, v2, v3] (.ref 87 :: st) I J Q := (rGf f168_56 rfl).trans (tr_and rfl)
theorem x168_59 : Rn S 168 59 [v0, v1, v2, v3] st I J Q = Rn S 168 60 [v0, v1, v2, v3] (.int 3 :: st) I J Q := rS f168_59 rfl
theorem x168_60 : Rn S 168 60 [v0, v1, .int a, v3] st I J Q = Rn S 168 61 [v0, v1, .int a, v3] (.int a :: st) I J Q := rL f168_60 rfl rfl
theorem x168_61 : Rn S 168 61 [v0, v1, v2, v3] (.int b :: .int a :: st) I J Q = Rn S 168 62 [v0, v1, v2, v3] (.int (a * b) :: st) I J Q := rS f168_61 rfl
theorem x168_62 : Rn S 168 62 [v0, v1, v2, v3] st I J Q = Rn S 168 63 [v0, v1, v2, v3] (.int 2 :: st) I J Q := rS f168_62 rfl
theorem x168_63 : Rn S 168 63 [v0, v1, v2, v3] (.int b :: .int a :: st) I J Q = Rn S 168 64 [v0, v1, v2, v3] (.int (a + b) :: st) I J Q := rS f168_63 rfl
theorem x168_64 : Rn S 168 64 [v0, v1, v2, v3] (.int a :: .ref q :: st) I J Q = (zai S q a ∧ Rn S 168 65 [v0, v1, v2, v3] (.int (I q a.toNatClampNeg) :: st) I J Q) := rIal f168_64
theorem x168_65 : Rn S 168 65 [v0, v1, v2, v3] st I J Q = Rn S 168 66 [v0, v1, v2, v3] (.int 1 :: st) I J Q := rS f168_65 rfl
theorem x168_66 : Rn S 168 66 [v0, v1, v2, v3] (.int b :: .int a :: st) I J Q = if a = b then Rn S 168 69 [v0, v1, v2, v3] st I J Q else Rn S 168 73 [v0, v1, v2, v3] st I J Q := rCne f168_66 rfl rfl
theorem x168_69 : Rn S 168 69 [v0, v1, v2, v3] st I J Q = Rn S 168 70 [v0, v1, v2, v3] (.int 1 :: st) I J Q := rS f168_69 rfl
theorem x168_70 : Rn S 168 70 [v0, v1, v2, v3] st I J Q = Rn S 168 74 [v0, v1, v2, v3] st I J Q := rB f168_70 rfl rfl rfl
theorem x168_73 : Rn S 168 73 [v0, v1, v2, v3] st I J Q = Rn S 168 74 [v0, v1, v2, v3] (.int 0 :: st) I J Q := rS f168_73 rfl
theorem x168_74 : Rn S 168 74 [v0, v1, v2, v3] (.int b :: .int a :: st) I J Q = if a = b then Rn S 168 77 [v0, v1, v2, v3] st I J Q else Rn S 168 81 [v0, v1, v2, v3] st I J Q := rCne f168_74 rfl rfl
theorem x168_77 : Rn S 168 77 [v0, v1, v2, v3] st I J Q = Rn S 168 78 [v0, v1, v2, v3] (.int 1 :: st) I J Q := rS f168_77 rfl
theorem x168_78 : Rn S 168 78 [v0, v1, v2, v3] st I J Q = Rn S 168 82 [v0, v1, v2, v3] st I J Q := rB f168_78 rfl rfl rfl
theorem x168_81 : Rn S 168 81 [v0, v1, v2, v3] st I J Q = Rn S 168 82 [v0, v1, v2, v3] (.int 0 :: st) I J Q := rS f168_81 rfl
theorem x168_82 : Rn S 168 82 [v0, v1, v2, v3] (.int a :: st) I J Q = Rn S 168 83 [zkl v0, .int a, v2, v3] st I J Q := rL f168_82 rfl rfl
theorem x168_83 : Rn S 168 83 [v0, v1, .int a, v3] st I J Q = Rn S 168 86 [v0, zkl v1, .int (a + 1), v3] st I J Q := rL f168_83 rfl rfl
theorem x168_86 : Rn S 168 86 [v0, v1, v2, v3] st I J Q = Rn S 168 8 [v0, v1, v2, v3] st I J Q := rB f168_86 rfl rfl rfl
theorem x168_89 : Rn S 168 89 [v0, .int a, v2, v3] st I J Q = Rn S 168 90 [v0, .int a, v2, v3] (.int a :: st) I J Q := rL f168_89 rfl rfl
theorem x168_90 : Rn S 168 90 [v0, v1, v2, v3] [.int a] I J Q = ((a = 0 ∨ a = 1) ∧ Q (some (.int a)) I J) := rRZ f168_90 (Or.inl rfl)
/-! X6.neverNow: 169 -/
theorem B169 : zB 169 = cX6_neverNow := rfl
theorem f169_0 : zft 169 0 = some (.iconst 0, 1) := fet B169 (by decide +kernel) (Or.inr rfl)
theorem f169_1 : zft 169 1 = some (.istore_n 1, 1) := fet B169 (by decide +kernel) (Or.inr rfl)
theorem f169_2 : zft 169 2 = some (.iconst 0, 1) := fet B169 (by decide +kernel) (Or.inr rfl)
theorem f169_3 : zft 169 3 = some (.istore_n 2, 1) := fet B169 (by decide +kernel) (Or.inr rfl)
theorem f169_4 : zft 169 4 = some (.iload_n 2, 1) := fet B169 (by decide +kernel) (Or.inr rfl)
theorem f169_5 : zft 169 5 = some (.aload_n 0, 1) := fet B169 (by decide +kernel) (Or.inr rfl)
theorem f169_6 : zft 169 6 = some (.getfield 179, 3) := fet B169 (by decide +kernel) (Or.inr rfl)
theorem f169_9 : zft 169 9 = some (.if_icmp .ge 33, 3) := fet B169 (by decide +kernel) (Or.inr rfl)
theorem f169_12 : zft 169 12 = some (.aload_n 0, 1) := fet B169 (by decide +kernel) (Or.inr rfl)
theorem f169_13 : zft 169 13 = some (.iconst 1, 1) := fet B169 (by decide +kernel) (Or.inr rfl)
theorem f169_14 : zft 169 14 = some (.iload_n 2, 1) := fet B169 (by decide +kernel) (Or.inr rfl)
theorem f169_15 : zft 169 15 = some (.ishl, 1) := fet B169 (by decide +kernel) (Or.inr rfl)
theorem f169_16 : zft 169 16 = some (.putfield 184, 3) := fet B169 (by decide +kernel) (Or.inr rfl)
theorem f169_19 : zft 169 19 = some (.iload_n 1, 1) := fet B169 (by decide +kernel) (Or.inr rfl)
theorem f169_20 : zft 169 20 = some (.aload_n 0, 1) := fet B169 (by decide +kernel) (Or.inr rfl)
theorem f169_21 : zft 169 21 = some (.invokevirtual 261, 3) := fet B169 (by decide +kernel) (Or.inr rfl)
theorem f169_24 : zft 169 24 = some (.ifCond .eq 9, 3) := fet B169 (by decide +kernel) (Or.inr rfl)
theorem f169_27 : zft 169 27 = some (.iconst 1, 1) := fet B169 (by decide +kernel) (Or.inr rfl)
theorem f169_28 : zft 169 28 = some (.iload_n 2, 1) := fet B169 (by decide +kernel) (Or.inr rfl)
theorem f169_29 : zft 169 29 = some (.ishl, 1) := fet B169 (by decide +kernel) (Or.inr rfl)
theorem f169_30 : zft 169 30 = some (.goto 4, 3) := fet B169 (by decide +kernel) (Or.inr rfl)
theorem f169_33 : zft 169 33 = some (.iconst 0, 1) := fet B169 (by decide +kernel) (Or.inr rfl)
theorem f169_34 : zft 169 34 = some (.ior, 1) := fet B169 (by decide +kernel) (Or.inr rfl)
theorem f169_35 : zft 169 35 = some (.istore_n 1, 1) := fet B169 (by decide +kernel) (Or.inr rfl)
theorem f169_36 : zft 169 36 = some (.iinc 2 1, 3) := fet B169 (by decide +kernel) (Or.inr rfl)
theorem f169_39 : zft 169 39 = some (.goto (-35), 3) := fet B169 (by decide +kernel) (Or.inr rfl)
theorem f169_42 : zft 169 42 = some (.aload_n 0, 1) := fet B169 (by decide +kernel) (Or.inr rfl)
theorem f169_43 : zft 169 43 = some (.iconst 0, 1) := fet B169 (by decide +kernel) (Or.inr rfl)
theorem f169_44 : zft 169 44 = some (.putfield 184, 3) := fet B169 (by decide +kernel) (Or.inr rfl)
theorem f169_47 : zft 169 47 = some (.iload_n 1, 1) := fet B169 (by decide +kernel) (Or.inr rfl)
theorem f169_48 : zft 169 48 = some (.ireturn, 1) := fet B169 (by decide +kernel) (Or.inr rfl)
theorem x169_0 : Rn S 169 0 [v0, v1, v2] st I J Q = Rn S 169 1 [v0, v1, v2] (.int 0 :: st) I J Q := rS f169_0 rfl
theorem x169_1 : Rn S 169 1 [v0, v1, v2] (.int a :: st) I J Q = Rn S 169 2 [zkl v0, .int a, v2] st I J Q := rL f169_1 rfl rfl
theorem x169_2 : Rn S 169 2 [v0, v1, v2] st I J Q = Rn S 169 3 [v0, v1, v2] (.int 0 :: st) I J Q := rS f169_2 rfl
theorem x169_3 : Rn S 169 3 [v0, v1, v2] (.int a :: st) I J Q = Rn S 169 4 [v0, zkl v1, .int a] st I J Q := rL f169_3 rfl rfl
theorem h169_4 : Rn S 169 4 [v0, v1, .int a] st I J Q = Rn S 169 5 [v0, v1, .int a] (.int a :: st) I J Q := rL f169_4 rfl rfl
theorem x169_5 : Rn S 169 5 [.ref q, v1, v2] st I J Q = Rn S 169 6 [.ref q, v1, v2] (.ref q :: st) I J Q := rL f169_5 rfl rfl
theorem x169_6_65 : Rn (zG xl) 169 6 [v0, v1, v2] (.ref 65 :: st) I J Q = Rn (zG xl) 169 9 [v0, v1, v2] (.int (I 65 14) :: st) I J Q := (rGf f169_6 rfl).trans (tr_and rfl)
theorem x169_9 : Rn S 169 9 [v0, v1, v2] (.int b :: .int a :: st) I J Q = if a < b then Rn S 169 12 [v0, v1, v2] st I J Q else Rn S 169 42 [v0, v1, v2] st I J Q := rCge f169_9 rfl rfl
theorem x169_12 : Rn S 169 12 [.ref q, v1, v2] st I J Q = Rn S 169 13 [.ref q, v1, v2] (.ref q :: st) I J Q := rL f169_12 rfl rfl
theorem x169_13 : Rn S 169 13 [v0, v1, v2] st I J Q = Rn S 169 14 [v0, v1, v2] (.int 1 :: st) I J Q := rS f169_13 rfl
theorem x169_14 : Rn S 169 14 [v0, v1, .int a] st I J Q = Rn S 169 15 [v0, v1, .int a] (.int a :: st) I J Q := rL f169_14 rfl rfl
theorem x169_15 : Rn S 169 15 [v0, v1, v2] (.int b :: .int a :: st) I J Q = Rn S 169 16 [v0, v1, v2] (.int (a <<< (b &&& 31)) :: st) I J Q := rS f169_15 rfl
theorem x169_16_65 : Rn (zG xl) 169 16 [v0, v1, v2] (.int a :: .ref 65 :: st) I J Q = Rn (zG xl) 169 19 [v0, v1, v2] st (zr I 65 (upd (I 65) 16 a)) J Q := (rPf f169_16 rfl).trans (tr_pf rfl rfl rfl)
theorem x169_19 : Rn S 169 19 [v0, .int a, v2] st I J Q = Rn S 169 20 [v0, .int a, v2] (.int a :: st) I J Q := rL f169_19 rfl rfl
theorem x169_20 : Rn S 169 20 [.ref q, v1, v2] st I J Q = Rn S 169 21 [.ref q, v1, v2] (.ref q :: st) I J Q := rL f169_20 rfl rfl
theorem x169_21 : Rn S 169 21 [v0, v1, v2] (.ref q :: st) I J Q = ((zcls S q = 6 ∧ zcs st ≤ 8) ∧ Rn S 168 0 [.ref q, .null, .null, .null] [] I J (fun v I' J' => Rn S 169 24 [v0, v1, v2] (v.toList ++ st) I' J' Q)) := rCV (As := []) f169_21 rfl rfl rfl rfl (Nat.le_of_ble_eq_true rfl)
theorem x169_24 : Rn S 169 24 [v0, v1, v2] (.int a :: st) I J Q = if a = 0 then Rn S 169 33 [v0, v1, v2] st I J Q else Rn S 169 27 [v0, v1, v2] st I J Q := rIeq f169_24 rfl rfl
theorem x169_27 : Rn S 169 27 [v0, v1, v2] st I J Q = Rn S 169 28 [v0, v1, v2] (.int 1 :: st) I J Q := rS f169_27 rfl
theorem x169_28 : Rn S 169 28 [v0, v1, .int a] st I J Q = Rn S 169 29 [v0, v1, .int a] (.int a :: st) I J Q := rL f169_28 rfl rfl
theorem x169_29 : Rn S 169 29 [v0, v1, v2] (.int b :: .int a :: st) I J Q = Rn S 169 30 [v0, v1, v2] (.int (a <<< (b &&& 31)) :: st) I J Q := rS f169_29 rfl
theorem x169_30 : Rn S 169 30 [v0, v1, v2] st I J Q = Rn S 169 34 [v0, v1, v2] st I J Q := rB f169_30 rfl rfl rfl
theorem x169_33 : Rn S 169 33 [v0, v1, v2] st I J Q = Rn S 169 34 [v0, v1, v2] (.int 0 :: st) I J Q := rS f169_33 rfl
theorem x169_34 : Rn S 169 34 [v0, v1, v2] (.int b :: .int a :: st) I J Q = Rn S 169 35 [v0, v1, v2] (.int (a ||| b) :: st) I J Q := rS f169_34 rfl
theorem x169_35 : Rn S 169 35 [v0, v1, v2] (.int a :: st) I J Q = Rn S 169 36 [zkl v0, .int a, v2] st I J Q := rL f169_35 rfl rfl
theorem x169_36 : Rn S 169 36 [v0, v1, .int a] st I J Q = Rn S 169 39 [v0, zkl v1, .int (a + 1)] st I J Q := rL f169_36 rfl rfl
theorem x169_39 : Rn S 169 39 [v0, v1, v2] st I J Q = Rn S 169 4 [v0, v1, v2] st I J Q := rB f169_39 rfl rfl rfl
theorem x169_42 : Rn S 169 42 [.ref q, v1, v2] st I J Q = Rn S 169 43 [.ref q, v1, v2] (.ref q :: st) I J Q := rL f169_42 rfl rfl
theorem x169_43 : Rn S 169 43 [v0, v1, v2] st I J Q = Rn S 169 44 [v0, v1, v2] (.int 0 :: st) I J Q := rS f169_43 rfl
theorem x169_44_65 : Rn (zG xl) 169 44 [v0, v1, v2] (.int a :: .ref 65 :: st) I J Q = Rn (zG xl) 169 47 [v0, v1, v2] st (zr I 65 (upd (I 65) 16 a)) J Q := (rPf f169_44 rfl).trans (tr_pf rfl rfl rfl)
theorem x169_47 : Rn S 169 47 [v0, .int a, v2] st I J Q = Rn S 169 48 [v0, .int a, v2] (.int a :: st) I J Q := rL f169_47 rfl rfl
theorem x169_48 : Rn S 169 48 [v0, v1, v2] [.int a] I J Q = Q (some (.int a)) I J := rR f169_48 rfl rfl rfl rfl rfl
/-! X6.never: 170 -/
theorem B170 : zB 170 = cX6_never := rfl
theorem f170_0 : zft 170 0 = some (.aload_n 0, 1) := fet B170 (by decide +kernel) (Or.inr rfl)
theorem f170_1 : zft 170 1 = some (.invokevirtual 205, 3) := fet B170 (by decide +kernel) (Or.inr rfl)
theorem f170_4 : zft 170 4 = some (.aload_n 0, 1) := fet B170 (by decide +kernel) (Or.inr rfl)
theorem f170_5 : zft 170 5 = some (.invokevirtual 265, 3) := fet B170 (by decide +kernel) (Or.inr rfl)
theorem f170_8 : zft 170 8 = some (.ireturn, 1) := fet B170 (by decide +kernel) (Or.inr rfl)
theorem x170_0 : Rn S 170 0 [.ref q] st I J Q = Rn S 170 1 [.ref q] (.ref q :: st) I J Q := rL f170_0 rfl rfl
theorem x170_1 : Rn S 170 1 [v0] (.ref q :: st) I J Q = ((zcls S q = 6 ∧ zcs st ≤ 8) ∧ Rn S 141 0 [.ref q] [] I J (fun v I' J' => Rn S 170 4 [v0] (v.toList ++ st) I' J' Q)) := rCV (As := []) f170_1 rfl rfl rfl rfl (Nat.le_of_ble_eq_true rfl)
theorem x170_4 : Rn S 170 4 [.ref q] st I J Q = Rn S 170 5 [.ref q] (.ref q :: st) I J Q := rL f170_4 rfl rfl
theorem x170_5 : Rn S 170 5 [v0] (.ref q :: st) I J Q = ((zcls S q = 6 ∧ zcs st ≤ 8) ∧ Rn S 169 0 [.ref q, .null, .null] [] I J (fun v I' J' => Rn S 170 8 [v0] (v.toList ++ st) I' J' Q)) := rCV (As := []) f170_5 rfl rfl rfl rfl (Nat.le_of_ble_eq_true rfl)
theorem x170_8 : Rn S 170 8 [v0] [.int a] I J Q = Q (some (.int a)) I J := rR f170_8 rfl rfl rfl rfl rfl
/-! X6.keensOf: 171 -/
theorem B171 : zB 171 = cX6_keensOf := rfl
theorem f171_0 : zft 171 0 = some (.aload_n 0, 1) := fet B171 (by decide +kernel) (Or.inr rfl)
theorem f171_1 : zft 171 1 = some (.getfield 31, 3) := fet B171 (by decide +kernel) (Or.inr rfl)
theorem f171_4 : zft 171 4 = some (.iconst 2, 1) := fet B171 (by decide +kernel) (Or.inr rfl)
theorem f171_5 : zft 171 5 = some (.iload_n 1, 1) := fet B171 (by decide +kernel) (Or.inr rfl)
theorem f171_6 : zft 171 6 = some (.imul, 1) := fet B171 (by decide +kernel) (Or.inr rfl)
theorem f171_7 : zft 171 7 = some (.iconst 1, 1) := fet B171 (by decide +kernel) (Or.inr rfl)
theorem f171_8 : zft 171 8 = some (.iadd, 1) := fet B171 (by decide +kernel) (Or.inr rfl)
theorem f171_9 : zft 171 9 = some (.iaload, 1) := fet B171 (by decide +kernel) (Or.inr rfl)
theorem f171_10 : zft 171 10 = some (.istore_n 2, 1) := fet B171 (by decide +kernel) (Or.inr rfl)
theorem f171_11 : zft 171 11 = some (.iconst 0, 1) := fet B171 (by decide +kernel) (Or.inr rfl)
theorem f171_12 : zft 171 12 = some (.istore_n 3, 1) := fet B171 (by decide +kernel) (Or.inr rfl)
theorem f171_13 : zft 171 13 = some (.iconst 1, 1) := fet B171 (by decide +kernel) (Or.inr rfl)
theorem f171_14 : zft 171 14 = some (.istore 4, 2) := fet B171 (by decide +kernel) (Or.inr rfl)
theorem f171_16 : zft 171 16 = some (.iload 4, 2) := fet B171 (by decide +kernel) (Or.inr rfl)
theorem f171_18 : zft 171 18 = some (.bipush 10, 2) := fet B171 (by decide +kernel) (Or.inr rfl)
theorem f171_20 : zft 171 20 = some (.if_icmp .ge 74, 3) := fet B171 (by decide +kernel) (Or.inr rfl)
theorem f171_23 : zft 171 23 = some (.aload_n 0, 1) := fet B171 (by decide +kernel) (Or.inr rfl)
theorem f171_24 : zft 171 24 = some (.getfield 31, 3) := fet B171 (by decide +kernel) (Or.inr rfl)
theorem f171_27 : zft 171 27 = some (.iconst 2, 1) := fet B171 (by decide +kernel) (Or.inr rfl)
theorem f171_28 : zft 171 28 = some (.iload_n 1, 1) := fet B171 (by decide +kernel) (Or.inr rfl)
theorem f171_29 : zft 171 29 = some (.imul, 1) := fet B171 (by decide +kernel) (Or.inr rfl)
theorem f171_30 : zft 171 30 = some (.iconst 1, 1) := fet B171 (by decide +kernel) (Or.inr rfl)
theorem f171_31 : zft 171 31 = some (.iadd, 1) := fet B171 (by decide +kernel) (Or.inr rfl)
theorem f171_32 : zft 171 32 = some (.iload 4, 2) := fet B171 (by decide +kernel) (Or.inr rfl)
theorem f171_34 : zft 171 34 = some (.iastore, 1) := fet B171 (by decide +kernel) (Or.inr rfl)
theorem f171_35 : zft 171 35 = some (.iload_n 3, 1) := fet B171 (by decide +kernel) (Or.inr rfl)
theorem f171_36 : zft 171 36 = some (.aload_n 0, 1) := fet B171 (by decide +kernel) (Or.inr rfl)
theorem f171_37 : zft 171 37 = some (.invokevirtual 261, 3) := fet B171 (by decide +kernel) (Or.inr rfl)
theorem f171_40 : zft 171 40 = some (.ifCond .eq 10, 3) := fet B171 (by decide +kernel) (Or.inr rfl)
theorem f171_43 : zft 171 43 = some (.iconst 1, 1) := fet B171 (by decide +kernel) (Or.inr rfl)
theorem f171_44 : zft 171 44 = some (.iload 4, 2) := fet B171 (by decide +kernel) (Or.inr rfl)
theorem f171_46 : zft 171 46 = some (.ishl, 1) := fet B171 (by decide +kernel) (Or.inr rfl)
theorem f171_47 : zft 171 47 = some (.goto 4, 3) := fet B171 (by decide +kernel) (Or.inr rfl)
theorem f171_50 : zft 171 50 = some (.iconst 0, 1) := fet B171 (by decide +kernel) (Or.inr rfl)
theorem f171_51 : zft 171 51 = some (.ior, 1) := fet B171 (by decide +kernel) (Or.inr rfl)
theorem f171_52 : zft 171 52 = some (.istore_n 3, 1) := fet B171 (by decide +kernel) (Or.inr rfl)
theorem f171_53 : zft 171 53 = some (.iconst 0, 1) := fet B171 (by decide +kernel) (Or.inr rfl)
theorem f171_54 : zft 171 54 = some (.istore 5, 2) := fet B171 (by decide +kernel) (Or.inr rfl)
theorem f171_56 : zft 171 56 = some (.iload 5, 2) := fet B171 (by decide +kernel) (Or.inr rfl)
theorem f171_58 : zft 171 58 = some (.bipush 24, 2) := fet B171 (by decide +kernel) (Or.inr rfl)
theorem f171_60 : zft 171 60 = some (.if_icmp .ge 28, 3) := fet B171 (by decide +kernel) (Or.inr rfl)
theorem f171_63 : zft 171 63 = some (.aload_n 0, 1) := fet B171 (by decide +kernel) (Or.inr rfl)
theorem f171_64 : zft 171 64 = some (.getfield 77, 3) := fet B171 (by decide +kernel) (Or.inr rfl)
theorem f171_67 : zft 171 67 = some (.bipush 24, 2) := fet B171 (by decide +kernel) (Or.inr rfl)
theorem f171_69 : zft 171 69 = some (.iload 4, 2) := fet B171 (by decide +kernel) (Or.inr rfl)
theorem f171_71 : zft 171 71 = some (.imul, 1) := fet B171 (by decide +kernel) (Or.inr rfl)
theorem f171_72 : zft 171 72 = some (.iload 5, 2) := fet B171 (by decide +kernel) (Or.inr rfl)
theorem f171_74 : zft 171 74 = some (.iadd, 1) := fet B171 (by decide +kernel) (Or.inr rfl)
theorem f171_75 : zft 171 75 = some (.aload_n 0, 1) := fet B171 (by decide +kernel) (Or.inr rfl)
theorem f171_76 : zft 171 76 = some (.iload 5, 2) := fet B171 (by decide +kernel) (Or.inr rfl)
theorem f171_78 : zft 171 78 = some (.invokevirtual 217, 3) := fet B171 (by decide +kernel) (Or.inr rfl)
theorem f171_81 : zft 171 81 = some (.iastore, 1) := fet B171 (by decide +kernel) (Or.inr rfl)
theorem f171_82 : zft 171 82 = some (.iinc 5 1, 3) := fet B171 (by decide +kernel) (Or.inr rfl)
theorem f171_85 : zft 171 85 = some (.goto (-29), 3) := fet B171 (by decide +kernel) (Or.inr rfl)
theorem f171_88 : zft 171 88 = some (.iinc 4 1, 3) := fet B171 (by decide +kernel) (Or.inr rfl)
theorem f171_91 : zft 171 91 = some (.goto (-75), 3) := fet B171 (by decide +kernel) (Or.inr rfl)
theorem f171_94 : zft 171 94 = some (.aload_n 0, 1) := fet B171 (by decide +kernel) (Or.inr rfl)
theorem f171_95 : zft 171 95 = some (.getfield 31, 3) := fet B171 (by decide +kernel) (Or.inr rfl)
theorem f171_98 : zft 171 98 = some (.iconst 2, 1) := fet B171 (by decide +kernel) (Or.inr rfl)
theorem f171_99 : zft 171 99 = some (.iload_n 1, 1) := fet B171 (by decide +kernel) (Or.inr rfl)
theorem f171_100 : zft 171 100 = some (.imul, 1) := fet B171 (by decide +kernel) (Or.inr rfl)
theorem f171_101 : zft 171 101 = some (.iconst 1, 1) := fet B171 (by decide +kernel) (Or.inr rfl)
theorem f171_102 : zft 171 102 = some (.iadd, 1) := fet B171 (by decide +kernel) (Or.inr rfl)
theorem f171_103 : zft 171 103 = some (.iload_n 2, 1) := fet B171 (by decide +kernel) (Or.inr rfl)
theorem f171_104 : zft 171 104 = some (.iastore, 1) := fet B171 (by decide +kernel) (Or.inr rfl)
theorem f171_105 : zft 171 105 = some (.iload_n 3, 1) := fet B171 (by decide +kernel) (Or.inr rfl)
theorem f171_106 : zft 171 106 = some (.ireturn, 1) := fet B171 (by decide +kernel) (Or.inr rfl)
theorem x171_0 : Rn S 171 0 [.ref q, v1, v2, v3, v4, v5] st I J Q = Rn S 171 1 [.ref q, v1, v2, v3, v4, v5] (.ref q :: st) I J Q := rL f171_0 rfl rfl
theorem x171_1_65 : Rn (zG xl) 171 1 [v0, v1, v2, v3, v4, v5] (.ref 65 :: st) I J Q = Rn (zG xl) 171 4 [v0, v1, v2, v3, v4, v5] (.ref 73 :: st) I J Q := (rGf f171_1 rfl).trans (tr_and rfl)
theorem x171_4 : Rn S 171 4 [v0, v1, v2, v3, v4, v5] st I J Q = Rn S 171 5 [v0, v1, v2, v3, v4, v5] (.int 2 :: st) I J Q := rS f171_4 rfl
theorem x171_5 : Rn S 171 5 [v0, .int a, v2, v3, v4, v5] st I J Q = Rn S 171 6 [v0, .int a, v2, v3, v4, v5] (.int a :: st) I J Q := rL f171_5 rfl rfl
theorem x171_6 : Rn S 171 6 [v0, v1, v2, v3, v4, v5] (.int b :: .int a :: st) I J Q = Rn S 171 7 [v0, v1, v2, v3, v4, v5] (.int (a * b) :: st) I J Q := rS f171_6 rfl
theorem x171_7 : Rn S 171 7 [v0, v1, v2, v3, v4, v5] st I J Q = Rn S 171 8 [v0, v1, v2, v3, v4, v5] (.int 1 :: st) I J Q := rS f171_7 rfl
theorem x171_8 : Rn S 171 8 [v0, v1, v2, v3, v4, v5] (.int b :: .int a :: st) I J Q = Rn S 171 9 [v0, v1, v2, v3, v4, v5] (.int (a + b) :: st) I J Q := rS f171_8 rfl
theorem x171_9 : Rn S 171 9 [v0, v1, v2, v3, v4, v5] (.int a :: .ref q :: st) I J Q = (zai S q a ∧ Rn S 171 10 [v0, v1, v2, v3, v4, v5] (.int (I q a.toNatClampNeg) :: st) I J Q) := rIal f171_9
theorem x171_10 : Rn S 171 10 [v0, v1, v2, v3, v4, v5] (.int a :: st) I J Q = Rn S 171 11 [v0, zkl v1, .int a, v3, v4, v5] st I J Q := rL f171_10 rfl rfl
theorem x171_11 : Rn S 171 11 [v0, v1, v2, v3, v4, v5] st I J Q = Rn S 171 12 [v0, v1, v2, v3, v4, v5] (.int 0 :: st) I J Q := rS f171_11 rfl
theorem x171_12 : Rn S 171 12 [v0, v1, v2, v3, v4, v5] (.int a :: st) I J Q = Rn S 171 13 [v0, v1, zkl v2, .int a, v4, v5] st I J Q := rL f171_12 rfl rfl
theorem x171_13 : Rn S 171 13 [v0, v1, v2, v3, v4, v5] st I J Q = Rn S 171 14 [v0, v1, v2, v3, v4, v5] (.int 1 :: st) I J Q := rS f171_13 rfl
theorem x171_14 : Rn S 171 14 [v0, v1, v2, v3, v4, v5] (.int a :: st) I J Q = Rn S 171 16 [v0, v1, v2, zkl v3, .int a, v5] st I J Q := rL f171_14 rfl rfl
theorem h171_16 : Rn S 171 16 [v0, v1, v2, v3, .int a, v5] st I J Q = Rn S 171 18 [v0, v1, v2, v3, .int a, v5] (.int a :: st) I J Q := rL f171_16 rfl rfl
theorem x171_18 : Rn S 171 18 [v0, v1, v2, v3, v4, v5] st I J Q = Rn S 171 20 [v0, v1, v2, v3, v4, v5] (.int 10 :: st) I J Q := rS f171_18 rfl
theorem x171_20 : Rn S 171 20 [v0, v1, v2, v3, v4, v5] (.int b :: .int a :: st) I J Q = if a < b then Rn S 171 23 [v0, v1, v2, v3, v4, v5] st I J Q else Rn S 171 94 [v0, v1, v2, v3, v4, v5] st I J Q := rCge f171_20 rfl rfl
theorem x171_23 : Rn S 171 23 [.ref q, v1, v2, v3, v4, v5] st I J Q = Rn S 171 24 [.ref q, v1, v2, v3, v4, v5] (.ref q :: st) I J Q := rL f171_23 rfl rfl
theorem x171_24_65 : Rn (zG xl) 171 24 [v0, v1, v2, v3, v4, v5] (.ref 65 :: st) I J Q = Rn (zG xl) 171 27 [v0, v1, v2, v3, v4, v5] (.ref 73 :: st) I J Q := (rGf f171_24 rfl).trans (tr_and rfl)
theorem x171_27 : Rn S 171 27 [v0, v1, v2, v3, v4, v5] st I J Q = Rn S 171 28 [v0, v1, v2, v3, v4, v5] (.int 2 :: st) I J Q := rS f171_27 rfl
theorem x171_28 : Rn S 171 28 [v0, .int a, v2, v3, v4, v5] st I J Q = Rn S 171 29 [v0, .int a, v2, v3, v4, v5] (.int a :: st) I J Q := rL f171_28 rfl rfl
theorem x171_29 : Rn S 171 29 [v0, v1, v2, v3, v4, v5] (.int b :: .int a :: st) I J Q = Rn S 171 30 [v0, v1, v2, v3, v4, v5] (.int (a * b) :: st) I J Q := rS f171_29 rfl
theorem x171_30 : Rn S 171 30 [v0, v1, v2, v3, v4, v5] st I J Q = Rn S 171 31 [v0, v1, v2, v3, v4, v5] (.int 1 :: st) I J Q := rS f171_30 rfl
theorem x171_31 : Rn S 171 31 [v0, v1, v2, v3, v4, v5] (.int b :: .int a :: st) I J Q = Rn S 171 32 [v0, v1, v2, v3, v4, v5] (.int (a + b) :: st) I J Q := rS f171_31 rfl
theorem x171_32 : Rn S 171 32 [v0, v1, v2, v3, .int a, v5] st I J Q = Rn S 171 34 [v0, v1, v2, v3, .int a, v5] (.int a :: st) I J Q := rL f171_32 rfl rfl
theorem x171_34 : Rn S 171 34 [v0, v1, v2, v3, v4, v5] (.int b :: .int a :: .ref q :: st) I J Q = (zas S q a ∧ Rn S 171 35 [v0, v1, v2, v3, v4, v5] st (zr I q (upd (I q) a.toNatClampNeg b)) J Q) := rIas f171_34
theorem x171_35 : Rn S 171 35 [v0, v1, v2, .int a, v4, v5] st I J Q = Rn S 171 36 [v0, v1, v2, .int a, v4, v5] (.int a :: st) I J Q := rL f171_35 rfl rfl
theorem x171_36 : Rn S 171 36 [.ref q, v1, v2, v3, v4, v5] st I J Q = Rn S 171 37 [.ref q, v1, v2, v3, v4, v5] (.ref q :: st) I J Q := rL f171_36 rfl rfl
theorem x171_37 : Rn S 171 37 [v0, v1, v2, v3, v4, v5] (.ref q :: st) I J Q = ((zcls S q = 6 ∧ zcs st ≤ 8) ∧ Rn S 168 0 [.ref q, .null, .null, .null] [] I J (fun v I' J' => Rn S 171 40 [v0, v1, v2, v3, v4, v5] (v.toList ++ st) I' J' Q)) := rCV (As := []) f171_37 rfl rfl rfl rfl (Nat.le_of_ble_eq_true rfl)
theorem x171_40 : Rn S 171 40 [v0, v1, v2, v3, v4, v5] (.int a :: st) I J Q = if a = 0 then Rn S 171 50 [v0, v1, v2, v3, v4, v5] st I J Q else Rn S 171 43 [v0, v1, v2, v3, v4, v5] st I J Q := rIeq f171_40 rfl rfl
theorem x171_43 : Rn S 171 43 [v0, v1, v2, v3, v4, v5] st I J Q = Rn S 171 44 [v0, v1, v2, v3, v4, v5] (.int 1 :: st) I J Q := rS f171_43 rfl
theorem x171_44 : Rn S 171 44 [v0, v1, v2, v3, .int a, v5] st I J Q = Rn S 171 46 [v0, v1, v2, v3, .int a, v5] (.int a :: st) I J Q := rL f171_44 rfl rfl
theorem x171_46 : Rn S 171 46 [v0, v1, v2, v3, v4, v5] (.int b :: .int a :: st) I J Q = Rn S 171 47 [v0, v1, v2, v3, v4, v5] (.int (a <<< (b &&& 31)) :: st) I J Q := rS f171_46 rfl
theorem x171_47 : Rn S 171 47 [v0, v1, v2, v3, v4, v5] st I J Q = Rn S 171 51 [v0, v1, v2, v3, v4, v5] st I J Q := rB f171_47 rfl rfl rfl
theorem x171_50 : Rn S 171 50 [v0, v1, v2, v3, v4, v5] st I J Q = Rn S 171 51 [v0, v1, v2, v3, v4, v5] (.int 0 :: st) I J Q := rS f171_50 rfl
theorem x171_51 : Rn S 171 51 [v0, v1, v2, v3, v4, v5] (.int b :: .int a :: st) I J Q = Rn S 171 52 [v0, v1, v2, v3, v4, v5] (.int (a ||| b) :: st) I J Q := rS f171_51 rfl
theorem x171_52 : Rn S 171 52 [v0, v1, v2, v3, v4, v5] (.int a :: st) I J Q = Rn S 171 53 [v0, v1, zkl v2, .int a, v4, v5] st I J Q := rL f171_52 rfl rfl
theorem x171_53 : Rn S 171 53 [v0, v1, v2, v3, v4, v5] st I J Q = Rn S 171 54 [v0, v1, v2, v3, v4, v5] (.int 0 :: st) I J Q := rS f171_53 rfl
theorem x171_54 : Rn S 171 54 [v0, v1, v2, v3, v4, v5] (.int a :: st) I J Q = Rn S 171 56 [v0, v1, v2, v3, zkl v4, .int a] st I J Q := rL f171_54 rfl rfl
theorem h171_56 : Rn S 171 56 [v0, v1, v2, v3, v4, .int a] st I J Q = Rn S 171 58 [v0, v1, v2, v3, v4, .int a] (.int a :: st) I J Q := rL f171_56 rfl rfl
theorem x171_58 : Rn S 171 58 [v0, v1, v2, v3, v4, v5] st I J Q = Rn S 171 60 [v0, v1, v2, v3, v4, v5] (.int 24 :: st) I J Q := rS f171_58 rfl
theorem x171_60 : Rn S 171 60 [v0, v1, v2, v3, v4, v5] (.int b :: .int a :: st) I J Q = if a < b then Rn S 171 63 [v0, v1, v2, v3, v4, v5] st I J Q else Rn S 171 88 [v0, v1, v2, v3, v4, v5] st I J Q := rCge f171_60 rfl rfl
theorem x171_63 : Rn S 171 63 [.ref q, v1, v2, v3, v4, v5] st I J Q = Rn S 171 64 [.ref q, v1, v2, v3, v4, v5] (.ref q :: st) I J Q := rL f171_63 rfl rfl
theorem x171_64_65 : Rn (zG xl) 171 64 [v0, v1, v2, v3, v4, v5] (.ref 65 :: st) I J Q = Rn (zG xl) 171 67 [v0, v1, v2, v3, v4, v5] (.ref 88 :: st) I J Q := (rGf f171_64 rfl).trans (tr_and rfl)
theorem x171_67 : Rn S 171 67 [v0, v1, v2, v3, v4, v5] st I J Q = Rn S 171 69 [v0, v1, v2, v3, v4, v5] (.int 24 :: st) I J Q := rS f171_67 rfl
theorem x171_69 : Rn S 171 69 [v0, v1, v2, v3, .int a, v5] st I J Q = Rn S 171 71 [v0, v1, v2, v3, .int a, v5] (.int a :: st) I J Q := rL f171_69 rfl rfl
theorem x171_71 : Rn S 171 71 [v0, v1, v2, v3, v4, v5] (.int b :: .int a :: st) I J Q = Rn S 171 72 [v0, v1, v2, v3, v4, v5] (.int (a * b) :: st) I J Q := rS f171_71 rfl
theorem x171_72 : Rn S 171 72 [v0, v1, v2, v3, v4, .int a] st I J Q = Rn S 171 74 [v0, v1, v2, v3, v4, .int a] (.int a :: st) I J Q := rL f171_72 rfl rfl
theorem x171_74 : Rn S 171 74 [v0, v1, v2, v3, v4, v5] (.int b :: .int a :: st) I J Q = Rn S 171 75 [v0, v1, v2, v3, v4, v5] (.int (a + b) :: st) I J Q := rS f171_74 rfl
theorem x171_75 : Rn S 171 75 [.ref q, v1, v2, v3, v4, v5] st I J Q = Rn S 171 76 [.ref q, v1, v2, v3, v4, v5] (.ref q :: st) I J Q := rL f171_75 rfl rfl
theorem x171_76 : Rn S 171 76 [v0, v1, v2, v3, v4, .int a] st I J Q = Rn S 171 78 [v0, v1, v2, v3, v4, .int a] (.int a :: st) I J Q := rL f171_76 rfl rfl
theorem x171_78 : Rn S 171 78 [v0, v1, v2, v3, v4, v5] (.int a0 :: .ref q :: st) I J Q = ((zcls S q = 6 ∧ zcs st ≤ 8) ∧ Rn S 148 0 [.ref q, .int a0, .null, .null] [] I J (fun v I' J' => Rn S 171 81 [v0, v1, v2, v3, v4, v5] (v.toList ++ st) I' J' Q)) := rCV (As := [.int a0]) f171_78 rfl rfl rfl rfl (Nat.le_of_ble_eq_true rfl)
theorem x171_81 : Rn S 171 81 [v0, v1, v2, v3, v4, v5] (.int b :: .int a :: .ref q :: st) I J Q = (zas S q a ∧ Rn S 171 82 [v0, v1, v2, v3, v4, v5] st (zr I q (upd (I q) a.toNatClampNeg b)) J Q) := rIas f171_81
theorem x171_82 : Rn S 171 82 [v0, v1, v2, v3, v4, .int a] st I J Q = Rn S 171 85 [v0, v1, v2, v3, zkl v4, .int (a + 1)] st I J Q := rL f171_82 rfl rfl
theorem x171_85 : Rn S 171 85 [v0, v1, v2, v3, v4, v5] st I J Q = Rn S 171 56 [v0, v1, v2, v3, v4, v5] st I J Q := rB f171_85 rfl rfl rfl
theorem x171_88 : Rn S 171 88 [v0, v1, v2, v3, .int a, v5] st I J Q = Rn S 171 91 [v0, v1, v2, zkl v3, .int (a + 1), v5] st I J Q := rL f171_88 rfl rfl
theorem x171_91 : Rn S 171 91 [v0, v1, v2, v3, v4, v5] st I J Q = Rn S 171 16 [v0, v1, v2, v3, v4, v5] st I J Q := rB f171_91 rfl rfl rfl
theorem x171_94 : Rn S 171 94 [.ref q, v1, v2, v3, v4, v5] st I J Q = Rn S 171 95 [.ref q, v1, v2, v3, v4, v5] (.ref q :: st) I J Q := rL f171_94 rfl rfl
theorem x171_95_65 : Rn (zG xl) 171 95 [v0, v1, v2, v3, v4, v5] (.ref 65 :: st) I J Q = Rn (zG xl) 171 98 [v0, v1, v2, v3, v4, v5] (.ref 73 :: st) I J Q := (rGf f171_95 rfl).trans (tr_and rfl)
theorem x171_98 : Rn S 171 98 [v0, v1, v2, v3, v4, v5] st I J Q = Rn S 171 99 [v0, v1, v2, v3, v4, v5] (.int 2 :: st) I J Q := rS f171_98 rfl
theorem x171_99 : Rn S 171 99 [v0, .int a, v2, v3, v4, v5] st I J Q = Rn S 171 100 [v0, .int a, v2, v3, v4, v5] (.int a :: st) I J Q := rL f171_99 rfl rfl
theorem x171_100 : Rn S 171 100 [v0, v1, v2, v3, v4, v5] (.int b :: .int a :: st) I J Q = Rn S 171 101 [v0, v1, v2, v3, v4, v5] (.int (a * b) :: st) I J Q := rS f171_100 rfl
theorem x171_101 : Rn S 171 101 [v0, v1, v2, v3, v4, v5] st I J Q = Rn S 171 102 [v0, v1, v2, v3, v4, v5] (.int 1 :: st) I J Q := rS f171_101 rfl
theorem x171_102 : Rn S 171 102 [v0, v1, v2, v3, v4, v5] (.int b :: .int a :: st) I J Q = Rn S 171 103 [v0, v1, v2, v3, v4, v5] (.int (a + b) :: st) I J Q := rS f171_102 rfl
theorem x171_103 : Rn S 171 103 [v0, v1, .int a, v3, v4, v5] st I J Q = Rn S 171 104 [v0, v1, .int a, v3, v4, v5] (.int a :: st) I J Q := rL f171_103 rfl rfl
theorem x171_104 : Rn S 171 104 [v0, v1, v2, v3, v4, v5] (.int b :: .int a :: .ref q :: st) I J Q = (zas S q a ∧ Rn S 171 105 [v0, v1, v2, v3, v4, v5] st (zr I q (upd (I q) a.toNatClampNeg b)) J Q) := rIas f171_104
theorem x171_105 : Rn S 171 105 [v0, v1, v2, .int a, v4, v5] st I J Q = Rn S 171 106 [v0, v1, v2, .int a, v4, v5] (.int a :: st) I J Q := rL f171_105 rfl rfl
theorem x171_106 : Rn S 171 106 [v0, v1, v2, v3, v4, v5] [.int a] I J Q = Q (some (.int a)) I J := rR f171_106 rfl rfl rfl rfl rfl
/-! X6.keens: 172 -/
theorem B172 : zB 172 = cX6_keens := rfl
theorem f172_0 : zft 172 0 = some (.aload_n 0, 1) := fet B172 (by decide +kernel) (Or.inr rfl)
theorem f172_1 : zft 172 1 = some (.invokevirtual 205, 3) := fet B172 (by decide +kernel) (Or.inr rfl)
theorem f172_4 : zft 172 4 = some (.aload_n 0, 1) := fet B172 (by decide +kernel) (Or.inr rfl)
theorem f172_5 : zft 172 5 = some (.iload_n 1, 1) := fet B172 (by decide +kernel) (Or.inr rfl)
theorem f172_6 : zft 172 6 = some (.invokevirtual 161, 3) := fet B172 (by decide +kernel) (Or.inr rfl)
theorem f172_9 : zft 172 9 = some (.ifCond .eq 11, 3) := fet B172 (by decide +kernel) (Or.inr rfl)
theorem f172_12 : zft 172 12 = some (.aload_n 0, 1) := fet B172 (by decide +kernel) (Or.inr rfl)
theorem f172_13 : zft 172 13 = some (.iload_n 1, 1) := fet B172 (by decide +kernel) (Or.inr rfl)
theorem f172_14 : zft 172 14 = some (.invokevirtual 268, 3) := fet B172 (by decide +kernel) (Or.inr rfl)
theorem f172_17 : zft 172 17 = some (.goto 5, 3) := fet B172 (by decide +kernel) (Or.inr rfl)
theorem f172_20 : zft 172 20 = some (.bipush (-2), 2) := fet B172 (by decide +kernel) (Or.inr rfl)
theorem f172_22 : zft 172 22 = some (.ireturn, 1) := fet B172 (by decide +kernel) (Or.inr rfl)
theorem x172_0 : Rn S 172 0 [.ref q, v1] st I J Q = Rn S 172 1 [.ref q, v1] (.ref q :: st) I J Q := rL f172_0 rfl rfl
theorem x172_1 : Rn S 172 1 [v0, v1] (.ref q :: st) I J Q = ((zcls S q = 6 ∧ zcs st ≤ 8) ∧ Rn S 141 0 [.ref q] [] I J (fun v I' J' => Rn S 172 4 [v0, v1] (v.toList ++ st) I' J' Q)) := rCV (As := []) f172_1 rfl rfl rfl rfl (Nat.le_of_ble_eq_true rfl)
theorem x172_4 : Rn S 172 4 [.ref q, v1] st I J Q = Rn S 172 5 [.ref q, v1] (.ref q :: st) I J Q := rL f172_4 rfl rfl
theorem x172_5 : Rn S 172 5 [v0, .int a] st I J Q = Rn S 172 6 [v0, .int a] (.int a :: st) I J Q := rL f172_5 rfl rfl
theorem x172_6 : Rn S 172 6 [v0, v1] (.int a0 :: .ref q :: st) I J Q = ((zcls S q = 6 ∧ zcs st ≤ 8) ∧ Rn S 127 0 [.ref q, .int a0] [] I J (fun v I' J' => Rn S 172 9 [v0, v1] (v.toList ++ st) I' J' Q)) := rCV (As := [.int a0]) f172_6 rfl rfl rfl rfl (Nat.le_of_ble_eq_true rfl)
theorem x172_9 : Rn S 172 9 [v0, v1] (.int a :: st) I J Q = if a = 0 then Rn S 172 20 [v0, v1] st I J Q else Rn S 172 12 [v0, v1] st I J Q := rIeq f172_9 rfl rfl
theorem x172_12 : Rn S 172 12 [.ref q, v1] st I J Q = Rn S 172 13 [.ref q, v1] (.ref q :: st) I J Q := rL f172_12 rfl rfl
theorem x172_13 : Rn S 172 13 [v0, .int a] st I J Q = Rn S 172 14 [v0, .int a] (.int a :: st) I J Q := rL f172_13 rfl rfl
theorem x172_14 : Rn S 172 14 [v0, v1] (.int a0 :: .ref q :: st) I J Q = ((zcls S q = 6 ∧ zcs st ≤ 8) ∧ Rn S 171 0 [.ref q, .int a0, .null, .null, .null, .null] [] I J (fun v I' J' => Rn S 172 17 [v0, v1] (v.toList ++ st) I' J' Q)) := rCV (As := [.int a0]) f172_14 rfl rfl rfl rfl (Nat.le_of_ble_eq_true rfl)
theorem x172_17 : Rn S 172 17 [v0, v1] st I J Q = Rn S 172 22 [v0, v1] st I J Q := rB f172_17 rfl rfl rfl
theorem x172_20 : Rn S 172 20 [v0, v1] st I J Q = Rn S 172 22 [v0, v1] (.int (-2) :: st) I J Q := rS f172_20 rfl
theorem x172_22 : Rn S 172 22 [v0, v1] [.int a] I J Q = Q (some (.int a)) I J := rR f172_22 rfl rfl rfl rfl rfl
/-! X6.kindOf: 173 -/
theorem B173 : zB 173 = cX6_kindOf := rfl
theorem f173_0 : zft 173 0 = some (.aload_n 0, 1) := fet B173 (by decide +kernel) (Or.inr rfl)
theorem f173_1 : zft 173 1 = some (.getfield 28, 3) := fet B173 (by decide +kernel) (Or.inr rfl)
theorem f173_4 : zft 173 4 = some (.iconst 2, 1) := fet B173 (by decide +kernel) (Or.inr rfl)
theorem f173_5 : zft 173 5 = some (.iload_n 1, 1) := fet B173 (by decide +kernel) (Or.inr rfl)
theorem f173_6 : zft 173 6 = some (.imul, 1) := fet B173 (by decide +kernel) (Or.inr rfl)
theorem f173_7 : zft 173 7 = some (.iaload, 1) := fet B173 (by decide +kernel) (Or.inr rfl)
theorem f173_8 : zft 173 8 = some (.istore_n 2, 1) := fet B173 (by decide +kernel) (Or.inr rfl)
theorem f173_9 : zft 173 9 = some (.iconst 0, 1) := fet B173 (by decide +kernel) (Or.inr rfl)
theorem f173_10 : zft 173 10 = some (.istore_n 3, 1) := fet B173 (by decide +kernel) (Or.inr rfl)
theorem f173_11 : zft 173 11 = some (.iconst 0, 1) := fet B173 (by decide +kernel) (Or.inr rfl)
theorem f173_12 : zft 173 12 = some (.istore 4, 2) := fet B173 (by decide +kernel) (Or.inr rfl)
theorem f173_14 : zft 173 14 = some (.iload 4, 2) := fet B173 (by decide +kernel) (Or.inr rfl)
theorem f173_16 : zft 173 16 = some (.iconst 3, 1) := fet B173 (by decide +kernel) (Or.inr rfl)
theorem f173_17 : zft 173 17 = some (.if_icmp .ge 37, 3) := fet B173 (by decide +kernel) (Or.inr rfl)
theorem f173_20 : zft 173 20 = some (.aload_n 0, 1) := fet B173 (by decide +kernel) (Or.inr rfl)
theorem f173_21 : zft 173 21 = some (.getfield 28, 3) := fet B173 (by decide +kernel) (Or.inr rfl)
theorem f173_24 : zft 173 24 = some (.iconst 2, 1) := fet B173 (by decide +kernel) (Or.inr rfl)
theorem f173_25 : zft 173 25 = some (.iload_n 1, 1) := fet B173 (by decide +kernel) (Or.inr rfl)
theorem f173_26 : zft 173 26 = some (.imul, 1) := fet B173 (by decide +kernel) (Or.inr rfl)
theorem f173_27 : zft 173 27 = some (.iload 4, 2) := fet B173 (by decide +kernel) (Or.inr rfl)
theorem f173_29 : zft 173 29 = some (.iastore, 1) := fet B173 (by decide +kernel) (Or.inr rfl)
theorem f173_30 : zft 173 30 = some (.iload_n 3, 1) := fet B173 (by decide +kernel) (Or.inr rfl)
theorem f173_31 : zft 173 31 = some (.aload_n 0, 1) := fet B173 (by decide +kernel) (Or.inr rfl)
theorem f173_32 : zft 173 32 = some (.invokevirtual 261, 3) := fet B173 (by decide +kernel) (Or.inr rfl)
theorem f173_35 : zft 173 35 = some (.ifCond .eq 10, 3) := fet B173 (by decide +kernel) (Or.inr rfl)
theorem f173_38 : zft 173 38 = some (.iconst 1, 1) := fet B173 (by decide +kernel) (Or.inr rfl)
theorem f173_39 : zft 173 39 = some (.iload 4, 2) := fet B173 (by decide +kernel) (Or.inr rfl)
theorem f173_41 : zft 173 41 = some (.ishl, 1) := fet B173 (by decide +kernel) (Or.inr rfl)
theorem f173_42 : zft 173 42 = some (.goto 4, 3) := fet B173 (by decide +kernel) (Or.inr rfl)
theorem f173_45 : zft 173 45 = some (.iconst 0, 1) := fet B173 (by decide +kernel) (Or.inr rfl)
theorem f173_46 : zft 173 46 = some (.ior, 1) := fet B173 (by decide +kernel) (Or.inr rfl)
theorem f173_47 : zft 173 47 = some (.istore_n 3, 1) := fet B173 (by decide +kernel) (Or.inr rfl)
theorem f173_48 : zft 173 48 = some (.iinc 4 1, 3) := fet B173 (by decide +kernel) (Or.inr rfl)
theorem f173_51 : zft 173 51 = some (.goto (-37), 3) := fet B173 (by decide +kernel) (Or.inr rfl)
theorem f173_54 : zft 173 54 = some (.aload_n 0, 1) := fet B173 (by decide +kernel) (Or.inr rfl)
theorem f173_55 : zft 173 55 = some (.getfield 28, 3) := fet B173 (by decide +kernel) (Or.inr rfl)
theorem f173_58 : zft 173 58 = some (.iconst 2, 1) := fet B173 (by decide +kernel) (Or.inr rfl)
theorem f173_59 : zft 173 59 = some (.iload_n 1, 1) := fet B173 (by decide +kernel) (Or.inr rfl)
theorem f173_60 : zft 173 60 = some (.imul, 1) := fet B173 (by decide +kernel) (Or.inr rfl)
theorem f173_61 : zft 173 61 = some (.iload_n 2, 1) := fet B173 (by decide +kernel) (Or.inr rfl)
theorem f173_62 : zft 173 62 = some (.iastore, 1) := fet B173 (by decide +kernel) (Or.inr rfl)
theorem f173_63 : zft 173 63 = some (.iload_n 3, 1) := fet B173 (by decide +kernel) (Or.inr rfl)
theorem f173_64 : zft 173 64 = some (.ireturn, 1) := fet B173 (by decide +kernel) (Or.inr rfl)
theorem x173_0 : Rn S 173 0 [.ref q, v1, v2, v3, v4] st I J Q = Rn S 173 1 [.ref q, v1, v2, v3, v4] (.ref q :: st) I J Q := rL f173_0 rfl rfl
theorem x173_1_65 : Rn (zG xl) 173 1 [v0, v1, v2, v3, v4] (.ref 65 :: st) I J Q = Rn (zG xl) 173 4 [v0, v1, v2, v3, v4] (.ref 72 :: st) I J Q := (rGf f173_1 rfl).trans (tr_and rfl)
theorem x173_4 : Rn S 173 4 [v0, v1, v2, v3, v4] st I J Q = Rn S 173 5 [v0, v1, v2, v3, v4] (.int 2 :: st) I J Q := rS f173_4 rfl
theorem x173_5 : Rn S 173 5 [v0, .int a, v2, v3, v4] st I J Q = Rn S 173 6 [v0, .int a, v2, v3, v4] (.int a :: st) I J Q := rL f173_5 rfl rfl
theorem x173_6 : Rn S 173 6 [v0, v1, v2, v3, v4] (.int b :: .int a :: st) I J Q = Rn S 173 7 [v0, v1, v2, v3, v4] (.int (a * b) :: st) I J Q := rS f173_6 rfl
theorem x173_7 : Rn S 173 7 [v0, v1, v2, v3, v4] (.int a :: .ref q :: st) I J Q = (zai S q a ∧ Rn S 173 8 [v0, v1, v2, v3, v4] (.int (I q a.toNatClampNeg) :: st) I J Q) := rIal f173_7
theorem x173_8 : Rn S 173 8 [v0, v1, v2, v3, v4] (.int a :: st) I J Q = Rn S 173 9 [v0, zkl v1, .int a, v3, v4] st I J Q := rL f173_8 rfl rfl
theorem x173_9 : Rn S 173 9 [v0, v1, v2, v3, v4] st I J Q = Rn S 173 10 [v0, v1, v2, v3, v4] (.int 0 :: st) I J Q := rS f173_9 rfl
theorem x173_10 : Rn S 173 10 [v0, v1, v2, v3, v4] (.int a :: st) I J Q = Rn S 173 11 [v0, v1, zkl v2, .int a, v4] st I J Q := rL f173_10 rfl rfl
theorem x173_11 : Rn S 173 11 [v0, v1, v2, v3, v4] st I J Q = Rn S 173 12 [v0, v1, v2, v3, v4] (.int 0 :: st) I J Q := rS f173_11 rfl
theorem x173_12 : Rn S 173 12 [v0, v1, v2, v3, v4] (.int a :: st) I J Q = Rn S 173 14 [v0, v1, v2, zkl v3, .int a] st I J Q := rL f173_12 rfl rfl
theorem h173_14 : Rn S 173 14 [v0, v1, v2, v3, .int a] st I J Q = Rn S 173 16 [v0, v1, v2, v3, .int a] (.int a :: st) I J Q := rL f173_14 rfl rfl
theorem x173_16 : Rn S 173 16 [v0, v1, v2, v3, v4] st I J Q = Rn S 173 17 [v0, v1, v2, v3, v4] (.int 3 :: st) I J Q := rS f173_16 rfl
theorem x173_17 : Rn S 173 17 [v0, v1, v2, v3, v4] (.int b :: .int a :: st) I J Q = if a < b then Rn S 173 20 [v0, v1, v2, v3, v4] st I J Q else Rn S 173 54 [v0, v1, v2, v3, v4] st I J Q := rCge f173_17 rfl rfl
theorem x173_20 : Rn S 173 20 [.ref q, v1, v2, v3, v4] st I J Q = Rn S 173 21 [.ref q, v1, v2, v3, v4] (.ref q :: st) I J Q := rL f173_20 rfl rfl
theorem x173_21_65 : Rn (zG xl) 173 21 [v0, v1, v2, v3, v4] (.ref 65 :: st) I J Q = Rn (zG xl) 173 24 [v0, v1, v2, v3, v4] (.ref 72 :: st) I J Q := (rGf f173_21 rfl).trans (tr_and rfl)
theorem x173_24 : Rn S 173 24 [v0, v1, v2, v3, v4] st I J Q = Rn S 173 25 [v0, v1, v2, v3, v4] (.int 2 :: st) I J Q := rS f173_24 rfl
theorem x173_25 : Rn S 173 25 [v0, .int a, v2, v3, v4] st I J Q = Rn S 173 26 [v0, .int a, v2, v3, v4] (.int a :: st) I J Q := rL f173_25 rfl rfl
theorem x173_26 : Rn S 173 26 [v0, v1, v2, v3, v4] (.int b :: .int a :: st) I J Q = Rn S 173 27 [v0, v1, v2, v3, v4] (.int (a * b) :: st) I J Q := rS f173_26 rfl
theorem x173_27 : Rn S 173 27 [v0, v1, v2, v3, .int a] st I J Q = Rn S 173 29 [v0, v1, v2, v3, .int a] (.int a :: st) I J Q := rL f173_27 rfl rfl
theorem x173_29 : Rn S 173 29 [v0, v1, v2, v3, v4] (.int b :: .int a :: .ref q :: st) I J Q = (zas S q a ∧ Rn S 173 30 [v0, v1, v2, v3, v4] st (zr I q (upd (I q) a.toNatClampNeg b)) J Q) := rIas f173_29
theorem x173_30 : Rn S 173 30 [v0, v1, v2, .int a, v4] st I J Q = Rn S 173 31 [v0, v1, v2, .int a, v4] (.int a :: st) I J Q := rL f173_30 rfl rfl
theorem x173_31 : Rn S 173 31 [.ref q, v1, v2, v3, v4] st I J Q = Rn S 173 32 [.ref q, v1, v2, v3, v4] (.ref q :: st) I J Q := rL f173_31 rfl rfl
theorem x173_32 : Rn S 173 32 [v0, v1, v2, v3, v4] (.ref q :: st) I J Q = ((zcls S q = 6 ∧ zcs st ≤ 8) ∧ Rn S 168 0 [.ref q, .null, .null, .null] [] I J (fun v I' J' => Rn S 173 35 [v0, v1, v2, v3, v4] (v.toList ++ st) I' J' Q)) := rCV (As := []) f173_32 rfl rfl rfl rfl (Nat.le_of_ble_eq_true rfl)
theorem x173_35 : Rn S 173 35 [v0, v1, v2, v3, v4] (.int a :: st) I J Q = if a = 0 then Rn S 173 45 [v0, v1, v2, v3, v4] st I J Q else Rn S 173 38 [v0, v1, v2, v3, v4] st I J Q := rIeq f173_35 rfl rfl
theorem x173_38 : Rn S 173 38 [v0, v1, v2, v3, v4] st I J Q = Rn S 173 39 [v0, v1, v2, v3, v4] (.int 1 :: st) I J Q := rS f173_38 rfl
theorem x173_39 : Rn S 173 39 [v0, v1, v2, v3, .int a] st I J Q = Rn S 173 41 [v0, v1, v2, v3, .int a] (.int a :: st) I J Q := rL f173_39 rfl rfl
theorem x173_41 : Rn S 173 41 [v0, v1, v2, v3, v4] (.int b :: .int a :: st) I J Q = Rn S 173 42 [v0, v1, v2, v3, v4] (.int (a <<< (b &&& 31)) :: st) I J Q := rS f173_41 rfl
theorem x173_42 : Rn S 173 42 [v0, v1, v2, v3, v4] st I J Q = Rn S 173 46 [v0, v1, v2, v3, v4] st I J Q := rB f173_42 rfl rfl rfl
theorem x173_45 : Rn S 173 45 [v0, v1, v2, v3, v4] st I J Q = Rn S 173 46 [v0, v1, v2, v3, v4] (.int 0 :: st) I J Q := rS f173_45 rfl
theorem x173_46 : Rn S 173 46 [v0, v1, v2, v3, v4] (.int b :: .int a :: st) I J Q = Rn S 173 47 [v0, v1, v2, v3, v4] (.int (a ||| b) :: st) I J Q := rS f173_46 rfl
theorem x173_47 : Rn S 173 47 [v0, v1, v2, v3, v4] (.int a :: st) I J Q = Rn S 173 48 [v0, v1, zkl v2, .int a, v4] st I J Q := rL f173_47 rfl rfl
theorem x173_48 : Rn S 173 48 [v0, v1, v2, v3, .int a] st I J Q = Rn S 173 51 [v0, v1, v2, zkl v3, .int (a + 1)] st I J Q := rL f173_48 rfl rfl
theorem x173_51 : Rn S 173 51 [v0, v1, v2, v3, v4] st I J Q = Rn S 173 14 [v0, v1, v2, v3, v4] st I J Q := rB f173_51 rfl rfl rfl
theorem x173_54 : Rn S 173 54 [.ref q, v1, v2, v3, v4] st I J Q = Rn S 173 55 [.ref q, v1, v2, v3, v4] (.ref q :: st) I J Q := rL f173_54 rfl rfl
theorem x173_55_65 : Rn (zG xl) 173 55 [v0, v1, v2, v3, v4] (.ref 65 :: st) I J Q = Rn (zG xl) 173 58 [v0, v1, v2, v3, v4] (.ref 72 :: st) I J Q := (rGf f173_55 rfl).trans (tr_and rfl)
theorem x173_58 : Rn S 173 58 [v0, v1, v2, v3, v4] st I J Q = Rn S 173 59 [v0, v1, v2, v3, v4] (.int 2 :: st) I J Q := rS f173_58 rfl
theorem x173_59 : Rn S 173 59 [v0, .int a, v2, v3, v4] st I J Q = Rn S 173 60 [v0, .int a, v2, v3, v4] (.int a :: st) I J Q := rL f173_59 rfl rfl
theorem x173_60 : Rn S 173 60 [v0, v1, v2, v3, v4] (.int b :: .int a :: st) I J Q = Rn S 173 61 [v0, v1, v2, v3, v4] (.int (a * b) :: st) I J Q := rS f173_60 rfl
theorem x173_61 : Rn S 173 61 [v0, v1, .int a, v3, v4] st I J Q = Rn S 173 62 [v0, v1, .int a, v3, v4] (.int a :: st) I J Q := rL f173_61 rfl rfl
theorem x173_62 : Rn S 173 62 [v0, v1, v2, v3, v4] (.int b :: .int a :: .ref q :: st) I J Q = (zas S q a ∧ Rn S 173 63 [v0, v1, v2, v3, v4] st (zr I q (upd (I q) a.toNatClampNeg b)) J Q) := rIas f173_62
theorem x173_63 : Rn S 173 63 [v0, v1, v2, .int a, v4] st I J Q = Rn S 173 64 [v0, v1, v2, .int a, v4] (.int a :: st) I J Q := rL f173_63 rfl rfl
theorem x173_64 : Rn S 173 64 [v0, v1, v2, v3, v4] [.int a] I J Q = Q (some (.int a)) I J := rR f173_64 rfl rfl rfl rfl rfl
/-! X6.kind: 174 -/
theorem B174 : zB 174 = cX6_kind := rfl
theorem f174_0 : zft 174 0 = some (.aload_n 0, 1) := fet B174 (by decide +kernel) (Or.inr rfl)
theorem f174_1 : zft 174 1 = some (.invokevirtual 205, 3) := fet B174 (by decide +kernel) (Or.inr rfl)
theorem f174_4 : zft 174 4 = some (.aload_n 0, 1) := fet B174 (by decide +kernel) (Or.inr rfl)
theorem f174_5 : zft 174 5 = some (.iload_n 1, 1) := fet B174 (by decide +kernel) (Or.inr rfl)
theorem f174_6 : zft 174 6 = some (.invokevirtual 155, 3) := fet B174 (by decide +kernel) (Or.inr rfl)
theorem f174_9 : zft 174 9 = some (.ifCond .eq 11, 3) := fet B174 (by decide +kernel) (Or.inr rfl)
theorem f174_12 : zft 174 12 = some (.aload_n 0, 1) := fet B174 (by decide +kernel) (Or.inr rfl)
theorem f174_13 : zft 174 13 = some (.iload_n 1, 1) := fet B174 (by decide +kernel) (Or.inr rfl)
theorem f174_14 : zft 174 14 = some (.invokevirtual 271, 3) := fet B174 (by decide +kernel) (Or.inr rfl)
theorem f174_17 : zft 174 17 = some (.goto 5, 3) := fet B174 (by decide +kernel) (Or.inr rfl)
theorem f174_20 : zft 174 20 = some (.bipush (-2), 2) := fet B174 (by decide +kernel) (Or.inr rfl)
theorem f174_22 : zft 174 22 = some (.ireturn, 1) := fet B174 (by decide +kernel) (Or.inr rfl)
theorem x174_0 : Rn S 174 0 [.ref q, v1] st I J Q = Rn S 174 1 [.ref q, v1] (.ref q :: st) I J Q := rL f174_0 rfl rfl
theorem x174_1 : Rn S 174 1 [v0, v1] (.ref q :: st) I J Q = ((zcls S q = 6 ∧ zcs st ≤ 8) ∧ Rn S 141 0 [.ref q] [] I J (fun v I' J' => Rn S 174 4 [v0, v1] (v.toList ++ st) I' J' Q)) := rCV (As := []) f174_1 rfl rfl rfl rfl (Nat.le_of_ble_eq_true rfl)
theorem x174_4 : Rn S 174 4 [.ref q, v1] st I J Q = Rn S 174 5 [.ref q, v1] (.ref q :: st) I J Q := rL f174_4 rfl rfl
theorem x174_5 : Rn S 174 5 [v0, .int a] st I J Q = Rn S 174 6 [v0, .int a] (.int a :: st) I J Q := rL f174_5 rfl rfl
theorem x174_6 : Rn S 174 6 [v0, v1] (.int a0 :: .ref q :: st) I J Q = ((zcls S q = 6 ∧ zcs st ≤ 8) ∧ Rn S 126 0 [.ref q, .int a0] [] I J (fun v I' J' => Rn S 174 9 [v0, v1] (v.toList ++ st) I' J' Q)) := rCV (As := [.int a0]) f174_6 rfl rfl rfl rfl (Nat.le_of_ble_eq_true rfl)
theorem x174_9 : Rn S 174 9 [v0, v1] (.int a :: st) I J Q = if a = 0 then Rn S 174 20 [v0, v1] st I J Q else Rn S 174 12 [v0, v1] st I J Q := rIeq f174_9 rfl rfl
theorem x174_12 : Rn S 174 12 [.ref q, v1] st I J Q = Rn S 174 13 [.ref q, v1] (.ref q :: st) I J Q := rL f174_12 rfl rfl
theorem x174_13 : Rn S 174 13 [v0, .int a] st I J Q = Rn S 174 14 [v0, .int a] (.int a :: st) I J Q := rL f174_13 rfl rfl
theorem x174_14 : Rn S 174 14 [v0, v1] (.int a0 :: .ref q :: st) I J Q = ((zcls S q = 6 ∧ zcs st ≤ 8) ∧ Rn S 173 0 [.ref q, .int a0, .null, .null, .null] [] I J (fun v I' J' => Rn S 174 17 [v0, v1] (v.toList ++ st) I' J' Q)) := rCV (As := [.int a0]) f174_14 rfl rfl rfl rfl (Nat.le_of_ble_eq_true rfl)
theorem x174_17 : Rn S 174 17 [v0, v1] st I J Q = Rn S 174 22 [v0, v1] st I J Q := rB f174_17 rfl rfl rfl
theorem x174_20 : Rn S 174 20 [v0, v1] st I J Q = Rn S 174 22 [v0, v1] (.int (-2) :: st) I J Q := rS f174_20 rfl
theorem x174_22 : Rn S 174 22 [v0, v1] [.int a] I J Q = Q (some (.int a)) I J := rR f174_22 rfl rfl rfl rfl rfl
/-! X6.alike: 175 -/
theorem B175 : zB 175 = cX6_alike := rfl
theorem f175_0 : zft 175 0 = some (.iconst 0, 1) := fet B175 (by decide +kernel) (Or.inr rfl)
theorem f175_1 : zft 175 1 = some (.istore_n 3, 1) := fet B175 (by decide +kernel) (Or.inr rfl)
theorem f175_2 : zft 175 2 = some (.iconst 1, 1) := fet B175 (by decide +kernel) (Or.inr rfl)
theorem f175_3 : zft 175 3 = some (.istore 4, 2) := fet B175 (by decide +kernel) (Or.inr rfl)
theorem f175_5 : zft 175 5 = some (.iload 4, 2) := fet B175 (by decide +kernel) (Or.inr rfl)
theorem f175_7 : zft 175 7 = some (.bipush 10, 2) := fet B175 (by decide +kernel) (Or.inr rfl)
theorem f175_9 : zft 175 9 = some (.if_icmp .ge 90, 3) := fet B175 (by decide +kernel) (Or.inr rfl)
theorem f175_12 : zft 175 12 = some (.iconst 0, 1) := fet B175 (by decide +kernel) (Or.inr rfl)
theorem f175_13 : zft 175 13 = some (.istore 5, 2) := fet B175 (by decide +kernel) (Or.inr rfl)
theorem f175_15 : zft 175 15 = some (.iconst 1, 1) := fet B175 (by decide +kernel) (Or.inr rfl)
theorem f175_16 : zft 175 16 = some (.istore 6, 2) := fet B175 (by decide +kernel) (Or.inr rfl)
theorem f175_18 : zft 175 18 = some (.iload 6, 2) := fet B175 (by decide +kernel) (Or.inr rfl)
theorem f175_20 : zft 175 20 = some (.bipush 10, 2) := fet B175 (by decide +kernel) (Or.inr rfl)
theorem f175_22 : zft 175 22 = some (.if_icmp .ge 64, 3) := fet B175 (by decide +kernel) (Or.inr rfl)
theorem f175_25 : zft 175 25 = some (.iload 5, 2) := fet B175 (by decide +kernel) (Or.inr rfl)
theorem f175_27 : zft 175 27 = some (.iload_n 1, 1) := fet B175 (by decide +kernel) (Or.inr rfl)
theorem f175_28 : zft 175 28 = some (.iload 4, 2) := fet B175 (by decide +kernel) (Or.inr rfl)
theorem f175_30 : zft 175 30 = some (.invokestatic 187, 3) := fet B175 (by decide +kernel) (Or.inr rfl)
theorem f175_33 : zft 175 33 = some (.ifCond .eq 43, 3) := fet B175 (by decide +kernel) (Or.inr rfl)
theorem f175_36 : zft 175 36 = some (.iload_n 1, 1) := fet B175 (by decide +kernel) (Or.inr rfl)
theorem f175_37 : zft 175 37 = some (.iload 6, 2) := fet B175 (by decide +kernel) (Or.inr rfl)
theorem f175_39 : zft 175 39 = some (.invokestatic 187, 3) := fet B175 (by decide +kernel) (Or.inr rfl)
theorem f175_42 : zft 175 42 = some (.ifCond .eq 34, 3) := fet B175 (by decide +kernel) (Or.inr rfl)
theorem f175_45 : zft 175 45 = some (.aload_n 0, 1) := fet B175 (by decide +kernel) (Or.inr rfl)
theorem f175_46 : zft 175 46 = some (.getfield 77, 3) := fet B175 (by decide +kernel) (Or.inr rfl)
theorem f175_49 : zft 175 49 = some (.bipush 24, 2) := fet B175 (by decide +kernel) (Or.inr rfl)
theorem f175_51 : zft 175 51 = some (.iload 4, 2) := fet B175 (by decide +kernel) (Or.inr rfl)
theorem f175_53 : zft 175 53 = some (.imul, 1) := fet B175 (by decide +kernel) (Or.inr rfl)
theorem f175_54 : zft 175 54 = some (.iload_n 2, 1) := fet B175 (by decide +kernel) (Or.inr rfl)
theorem f175_55 : zft 175 55 = some (.iadd, 1) := fet B175 (by decide +kernel) (Or.inr rfl)
theorem f175_56 : zft 175 56 = some (.iaload, 1) := fet B175 (by decide +kernel) (Or.inr rfl)
theorem f175_57 : zft 175 57 = some (.aload_n 0, 1) := fet B175 (by decide +kernel) (Or.inr rfl)
theorem f175_58 : zft 175 58 = some (.getfield 77, 3) := fet B175 (by decide +kernel) (Or.inr rfl)
theorem f175_61 : zft 175 61 = some (.bipush 24, 2) := fet B175 (by decide +kernel) (Or.inr rfl)
theorem f175_63 : zft 175 63 = some (.iload 6, 2) := fet B175 (by decide +kernel) (Or.inr rfl)
theorem f175_65 : zft 175 65 = some (.imul, 1) := fet B175 (by decide +kernel) (Or.inr rfl)
theorem f175_66 : zft 175 66 = some (.iload_n 2, 1) := fet B175 (by decide +kernel) (Or.inr rfl)
theorem f175_67 : zft 175 67 = some (.iadd, 1) := fet B175 (by decide +kernel) (Or.inr rfl)
theorem f175_68 : zft 175 68 = some (.iaload, 1) := fet B175 (by decide +kernel) (Or.inr rfl)
theorem f175_69 : zft 175 69 = some (.if_icmp .ne 7, 3) := fet B175 (by decide +kernel) (Or.inr rfl)
theorem f175_72 : zft 175 72 = some (.iconst 1, 1) := fet B175 (by decide +kernel) (Or.inr rfl)
theorem f175_73 : zft 175 73 = some (.goto 4, 3) := fet B175 (by decide +kernel) (Or.inr rfl)
theorem f175_76 : zft 175 76 = some (.iconst 0, 1) := fet B175 (by decide +kernel) (Or.inr rfl)
theorem f175_77 : zft 175 77 = some (.iadd, 1) := fet B175 (by decide +kernel) (Or.inr rfl)
theorem f175_78 : zft 175 78 = some (.istore 5, 2) := fet B175 (by decide +kernel) (Or.inr rfl)
theorem f175_80 : zft 175 80 = some (.iinc 6 1, 3) := fet B175 (by decide +kernel) (Or.inr rfl)
theorem f175_83 : zft 175 83 = some (.goto (-65), 3) := fet B175 (by decide +kernel) (Or.inr rfl)
theorem f175_86 : zft 175 86 = some (.iload 5, 2) := fet B175 (by decide +kernel) (Or.inr rfl)
theorem f175_88 : zft 175 88 = some (.iload_n 3, 1) := fet B175 (by decide +kernel) (Or.inr rfl)
theorem f175_89 : zft 175 89 = some (.invokestatic 195, 3) := fet B175 (by decide +kernel) (Or.inr rfl)
theorem f175_92 : zft 175 92 = some (.istore_n 3, 1) := fet B175 (by decide +kernel) (Or.inr rfl)
theorem f175_93 : zft 175 93 = some (.iinc 4 1, 3) := fet B175 (by decide +kernel) (Or.inr rfl)
theorem f175_96 : zft 175 96 = some (.goto (-91), 3) := fet B175 (by decide +kernel) (Or.inr rfl)
theorem f175_99 : zft 175 99 = some (.iload_n 3, 1) := fet B175 (by decide +kernel) (Or.inr rfl)
theorem f175_100 : zft 175 100 = some (.ireturn, 1) := fet B175 (by decide +kernel) (Or.inr rfl)
theorem x175_0 : Rn S 175 0 [v0, v1, v2, v3, v4, v5, v6] st I J Q = Rn S 175 1 [v0, v1, v2, v3, v4, v5, v6] (.int 0 :: st) I J Q := rS f175_0 rfl
theorem x175_1 : Rn S 175 1 [v0, v1, v2, v3, v4, v5, v6] (.int a :: st) I J Q = Rn S 175 2 [v0, v1, zkl v2, .int a, v4, v5, v6] st I J Q := rL f175_1 rfl rfl
theorem x175_2 : Rn S 175 2 [v0, v1, v2, v3, v4, v5, v6] st I J Q = Rn S 175 3 [v0, v1, v2, v3, v4, v5, v6] (.int 1 :: st) I J Q := rS f175_2 rfl
theorem x175_3 : Rn S 175 3 [v0, v1, v2, v3, v4, v5, v6] (.int a :: st) I J Q = Rn S 175 5 [v0, v1, v2, zkl v3, .int a, v5, v6] st I J Q := rL f175_3 rfl rfl
theorem h175_5 : Rn S 175 5 [v0, v1, v2, v3, .int a, v5, v6] st I J Q = Rn S 175 7 [v0, v1, v2, v3, .int a, v5, v6] (.int a :: st) I J Q := rL f175_5 rfl rfl
theorem x175_7 : Rn S 175 7 [v0, v1, v2, v3, v4, v5, v6] st I J Q = Rn S 175 9 [v0, v1, v2, v3, v4, v5, v6] (.int 10 :: st) I J Q := rS f175_7 rfl
theorem x175_9 : Rn S 175 9 [v0, v1, v2, v3, v4, v5, v6] (.int b :: .int a :: st) I J Q = if a < b then Rn S 175 12 [v0, v1, v2, v3, v4, v5, v6] st I J Q else Rn S 175 99 [v0, v1, v2, v3, v4, v5, v6] st I J Q := rCge f175_9 rfl rfl
theorem x175_12 : Rn S 175 12 [v0, v1, v2, v3, v4, v5, v6] st I J Q = Rn S 175 13 [v0, v1, v2, v3, v4, v5, v6] (.int 0 :: st) I J Q := rS f175_12 rfl
theorem x175_13 : Rn S 175 13 [v0, v1, v2, v3, v4, v5, v6] (.int a :: st) I J Q = Rn S 175 15 [v0, v1, v2, v3, zkl v4, .int a, v6] st I J Q := rL f175_13 rfl rfl
theorem x175_15 : Rn S 175 15 [v0, v1, v2, v3, v4, v5, v6] st I J Q = Rn S 175 16 [v0, v1, v2, v3, v4, v5, v6] (.int 1 :: st) I J Q := rS f175_15 rfl
theorem x175_16 : Rn S 175 16 [v0, v1, v2, v3, v4, v5, v6] (.int a :: st) I J Q = Rn S 175 18 [v0, v1, v2, v3, v4, zkl v5, .int a] st I J Q := rL f175_16 rfl rfl
theorem h175_18 : Rn S 175 18 [v0, v1, v2, v3, v4, v5, .int a] st I J Q = Rn S 175 20 [v0, v1, v2, v3, v4, v5, .int a] (.int a :: st) I J Q := rL f175_18 rfl rfl
theorem x175_20 : Rn S 175 20 [v0, v1, v2, v3, v4, v5, v6] st I J Q = Rn S 175 22 [v0, v1, v2, v3, v4, v5, v6] (.int 10 :: st) I J Q := rS f175_20 rfl
theorem x175_22 : Rn S 175 22 [v0, v1, v2, v3, v4, v5, v6] (.int b :: .int a :: st) I J Q = if a < b then Rn S 175 25 [v0, v1, v2, v3, v4, v5, v6] st I J Q else Rn S 175 86 [v0, v1, v2, v3, v4, v5, v6] st I J Q := rCge f175_22 rfl rfl
theorem x175_25 : Rn S 175 25 [v0, v1, v2, v3, v4, .int a, v6] st I J Q = Rn S 175 27 [v0, v1, v2, v3, v4, .int a, v6] (.int a :: st) I J Q := rL f175_25 rfl rfl
theorem x175_27 : Rn S 175 27 [v0, .int a, v2, v3, v4, v5, v6] st I J Q = Rn S 175 28 [v0, .int a, v2, v3, v4, v5, v6] (.int a :: st) I J Q := rL f175_27 rfl rfl
theorem x175_28 : Rn S 175 28 [v0, v1, v2, v3, .int a, v5, v6] st I J Q = Rn S 175 30 [v0, v1, v2, v3, .int a, v5, v6] (.int a :: st) I J Q := rL f175_28 rfl rfl
theorem x175_30 : Rn S 175 30 [v0, v1, v2, v3, v4, v5, v6] (.int a1 :: .int a0 :: st) I J Q = (zcs st ≤ 8 ∧ Rn S 99 0 [.int a0, .int a1] [] I J (fun v I' J' => Rn S 175 33 [v0, v1, v2, v3, v4, v5, v6] (v.toList ++ st) I' J' Q)) := rCS (As := [.int a0, .int a1]) f175_30 rfl rfl rfl rfl (Nat.le_of_ble_eq_true rfl)
theorem x175_33 : Rn S 175 33 [v0, v1, v2, v3, v4, v5, v6] (.int a :: st) I J Q = if a = 0 then Rn S 175 76 [v0, v1, v2, v3, v4, v5, v6] st I J Q else Rn S 175 36 [v0, v1, v2, v3, v4, v5, v6] st I J Q := rIeq f175_33 rfl rfl
theorem x175_36 : Rn S 175 36 [v0, .int a, v2, v3, v4, v5, v6] st I J Q = Rn S 175 37 [v0, .int a, v2, v3, v4, v5, v6] (.int a :: st) I J Q := rL f175_36 rfl rfl
theorem x175_37 : Rn S 175 37 [v0, v1, v2, v3, v4, v5, .int a] st I J Q = Rn S 175 39 [v0, v1, v2, v3, v4, v5, .int a] (.int a :: st) I J Q := rL f175_37 rfl rfl
theorem x175_39 : Rn S 175 39 [v0, v1, v2, v3, v4, v5, v6] (.int a1 :: .int a0 :: st) I J Q = (zcs st ≤ 8 ∧ Rn S 99 0 [.int a0, .int a1] [] I J (fun v I' J' => Rn S 175 42 [v0, v1, v2, v3, v4, v5, v6] (v.toList ++ st) I' J' Q)) := rCS (As := [.int a0, .int a1]) f175_39 rfl rfl rfl rfl (Nat.le_of_ble_eq_true rfl)
theorem x175_42 : Rn S 175 42 [v0, v1, v2, v3, v4, v5, v6] (.int a :: st) I J Q = if a = 0 then Rn S 175 76 [v0, v1, v2, v3, v4, v5, v6] st I J Q else Rn S 175 45 [v0, v1, v2, v3, v4, v5, v6] st I J Q := rIeq f175_42 rfl rfl
theorem x175_45 : Rn S 175 45 [.ref q, v1, v2, v3, v4, v5, v6] st I J Q = Rn S 175 46 [.ref q, v1, v2, v3, v4, v5, v6] (.ref q :: st) I J Q := rL f175_45 rfl rfl
theorem x175_46_65 : Rn (zG xl) 175 46 [v0, v1, v2, v3, v4, v5, v6] (.ref 65 :: st) I J Q = Rn (zG xl) 175 49 [v0, v1, v2, v3, v4, v5, v6] (.ref 88 :: st) I J Q := (rGf f175_46 rfl).trans (tr_and rfl)
theorem x175_49 : Rn S 175 49 [v0, v1, v2, v3, v4, v5, v6] st I J Q = Rn S 175 51 [v0, v1, v2, v3, v4, v5, v6] (.int 24 :: st) I J Q := rS f175_49 rfl
theorem x175_51 : Rn S 175 51 [v0, v1, v2, v3, .int a, v5, v6] st I J Q = Rn S 175 53 [v0, v1, v2, v3, .int a, v5, v6] (.int a :: st) I J Q := rL f175_51 rfl rfl
theorem x175_53 : Rn S 175 53 [v0, v1, v2, v3, v4, v5, v6] (.int b :: .int a :: st) I J Q = Rn S 175 54 [v0, v1, v2, v3, v4, v5, v6] (.int (a * b) :: st) I J Q := rS f175_53 rfl
theorem x175_54 : Rn S 175 54 [v0, v1, .int a, v3, v4, v5, v6] st I J Q = Rn S 175 55 [v0, v1, .int a, v3, v4, v5, v6] (.int a :: st) I J Q := rL f175_54 rfl rfl
theorem x175_55 : Rn S 175 55 [v0, v1, v2, v3, v4, v5, v6] (.int b :: .int a :: st) I J Q = Rn S 175 56 [v0, v1, v2, v3, v4, v5, v6] (.int (a + b) :: st) I J Q := rS f175_55 rfl
theorem x175_56 : Rn S 175 56 [v0, v1, v2, v3, v4, v5, v6] (.int a :: .ref q :: st) I J Q = (zai S q a ∧ Rn S 175 57 [v0, v1, v2, v3, v4, v5, v6] (.int (I q a.toNatClampNeg) :: st) I J Q) := rIal f175_56
theorem x175_57 : Rn S 175 57 [.ref q, v1, v2, v3, v4, v5, v6] st I J Q = Rn S 175 58 [.ref q, v1, v2, v3, v4, v5, v6] (.ref q :: st) I J Q := rL f175_57 rfl rfl
theorem x175_58_65 : Rn (zG xl) 175 58 [v0, v1, v2, v3, v4, v5, v6] (.ref 65 :: st) I J Q = Rn (zG xl) 175 61 [v0, v1, v2, v3, v4, v5, v6] (.ref 88 :: st) I J Q := (rGf f175_58 rfl).trans (tr_and rfl)
theorem x175_61 : Rn S 175 61 [v0, v1, v2, v3, v4, v5, v6] st I J Q = Rn S 175 63 [v0, v1, v2, v3, v4, v5, v6] (.int 24 :: st) I J Q := rS f175_61 rfl
theorem x175_63 : Rn S 175 63 [v0, v1, v2, v3, v4, v5, .int a] st I J Q = Rn S 175 65 [v0, v1, v2, v3, v4, v5, .int a] (.int a :: st) I J Q := rL f175_63 rfl rfl
theorem x175_65 : Rn S 175 65 [v0, v1, v2, v3, v4, v5, v6] (.int b :: .int a :: st) I J Q = Rn S 175 66 [v0, v1, v2, v3, v4, v5, v6] (.int (a * b) :: st) I J Q := rS f175_65 rfl
theorem x175_66 : Rn S 175 66 [v0, v1, .int a, v3, v4, v5, v6] st I J Q = Rn S 175 67 [v0, v1, .int a, v3, v4, v5, v6] (.int a :: st) I J Q := rL f175_66 rfl rfl
theorem x175_67 : Rn S 175 67 [v0, v1, v2, v3, v4, v5, v6] (.int b :: .int a :: st) I J Q = Rn S 175 68 [v0, v1, v2, v3, v4, v5, v6] (.int (a + b) :: st) I J Q := rS f175_67 rfl
theorem x175_68 : Rn S 175 68 [v0, v1, v2, v3, v4, v5, v6] (.int a :: .ref q :: st) I J Q = (zai S q a ∧ Rn S 175 69 [v0, v1, v2, v3, v4, v5, v6] (.int (I q a.toNatClampNeg) :: st) I J Q) := rIal f175_68
theorem x175_69 : Rn S 175 69 [v0, v1, v2, v3, v4, v5, v6] (.int b :: .int a :: st) I J Q = if a = b then Rn S 175 72 [v0, v1, v2, v3, v4, v5, v6] st I J Q else Rn S 175 76 [v0, v1, v2, v3, v4, v5, v6] st I J Q := rCne f175_69 rfl rfl
theorem x175_72 : Rn S 175 72 [v0, v1, v2, v3, v4, v5, v6] st I J Q = Rn S 175 73 [v0, v1, v2, v3, v4, v5, v6] (.int 1 :: st) I J Q := rS f175_72 rfl
theorem x175_73 : Rn S 175 73 [v0, v1, v2, v3, v4, v5, v6] st I J Q = Rn S 175 77 [v0, v1, v2, v3, v4, v5, v6] st I J Q := rB f175_73 rfl rfl rfl
theorem x175_76 : Rn S 175 76 [v0, v1, v2, v3, v4, v5, v6] st I J Q = Rn S 175 77 [v0, v1, v2, v3, v4, v5, v6] (.int 0 :: st) I J Q := rS f175_76 rfl
theorem x175_77 : Rn S 175 77 [v0, v1, v2, v3, v4, v5, v6] (.int b :: .int a :: st) I J Q = Rn S 175 78 [v0, v1, v2, v3, v4, v5, v6] (.int (a + b) :: st) I J Q := rS f175_77 rfl
theorem x175_78 : Rn S 175 78 [v0, v1, v2, v3, v4, v5, v6] (.int a :: st) I J Q = Rn S 175 80 [v0, v1, v2, v3, zkl v4, .int a, v6] st I J Q := rL f175_78 rfl rfl
theorem x175_80 : Rn S 175 80 [v0, v1, v2, v3, v4, v5, .int a] st I J Q = Rn S 175 83 [v0, v1, v2, v3, v4, zkl v5, .int (a + 1)] st I J Q := rL f175_80 rfl rfl
theorem x175_83 : Rn S 175 83 [v0, v1, v2, v3, v4, v5, v6] st I J Q = Rn S 175 18 [v0, v1, v2, v3, v4, v5, v6] st I J Q := rB f175_83 rfl rfl rfl
theorem x175_86 : Rn S 175 86 [v0, v1, v2, v3, v4, .int a, v6] st I J Q = Rn S 175 88 [v0, v1, v2, v3, v4, .int a, v6] (.int a :: st) I J Q := rL f175_86 rfl rfl
theorem x175_88 : Rn S 175 88 [v0, v1, v2, .int a, v4, v5, v6] st I J Q = Rn S 175 89 [v0, v1, v2, .int a, v4, v5, v6] (.int a :: st) I J Q := rL f175_88 rfl rfl
theorem x175_89 : Rn S 175 89 [v0, v1, v2, v3, v4, v5, v6] (.int a1 :: .int a0 :: st) I J Q = (zcs st ≤ 8 ∧ Rn S 102 0 [.int a0, .int a1] [] I J (fun v I' J' => Rn S 175 92 [v0, v1, v2, v3, v4, v5, v6] (v.toList ++ st) I' J' Q)) := rCS (As := [.int a0, .int a1]) f175_89 rfl rfl rfl rfl (Nat.le_of_ble_eq_true rfl)
theorem x175_92 : Rn S 175 92 [v0, v1, v2, v3, v4, v5, v6] (.int a :: st) I J Q = Rn S 175 93 [v0, v1, zkl v2, .int a, v4, v5, v6] st I J Q := rL f175_92 rfl rfl
theorem x175_93 : Rn S 175 93 [v0, v1, v2, v3, .int a, v5, v6] st I J Q = Rn S 175 96 [v0, v1, v2, zkl v3, .int (a + 1), v5, v6] st I J Q := rL f175_93 rfl rfl
theorem x175_96 : Rn S 175 96 [v0, v1, v2, v3, v4, v5, v6] st I J Q = Rn S 175 5 [v0, v1, v2, v3, v4, v5, v6] st I J Q := rB f175_96 rfl rfl rfl
theorem x175_99 : Rn S 175 99 [v0, v1, v2, .int a, v4, v5, v6] st I J Q = Rn S 175 100 [v0, v1, v2, .int a, v4, v5, v6] (.int a :: st) I J Q := rL f175_99 rfl rfl
theorem x175_100 : Rn S 175 100 [v0, v1, v2, v3, v4, v5, v6] [.int a] I J Q = Q (some (.int a)) I J := rR f175_100 rfl rfl rfl rfl rfl
/-! X6.askOf: 176 -/
theorem B176 : zB 176 = cX6_askOf := rfl
theorem f176_0 : zft 176 0 = some (.aload_n 0, 1) := fet B176 (by decide +kernel) (Or.inr rfl)
theorem f176_1 : zft 176 1 = some (.iload_n 1, 1) := fet B176 (by decide +kernel) (Or.inr rfl)
theorem f176_2 : zft 176 2 = some (.invokevirtual 268, 3) := fet B176 (by decide +kernel) (Or.inr rfl)
theorem f176_5 : zft 176 5 = some (.istore_n 2, 1) := fet B176 (by decide +kernel) (Or.inr rfl)
theorem f176_6 : zft 176 6 = some (.iconst 0, 1) := fet B176 (by decide +kernel) (Or.inr rfl)
theorem f176_7 : zft 176 7 = some (.istore_n 3, 1) := fet B176 (by decide +kernel) (Or.inr rfl)
theorem f176_8 : zft 176 8 = some (.iconst 1, 1) := fet B176 (by decide +kernel) (Or.inr rfl)
theorem f176_9 : zft 176 9 = some (.istore 4, 2) := fet B176 (by decide +kernel) (Or.inr rfl)
theorem f176_11 : zft 176 11 = some (.iload 4, 2) := fet B176 (by decide +kernel) (Or.inr rfl)
theorem f176_13 : zft 176 13 = some (.bipush 24, 2) := fet B176 (by decide +kernel) (Or.inr rfl)
theorem f176_15 : zft 176 15 = some (.if_icmp .ge 32, 3) := fet B176 (by decide +kernel) (Or.inr rfl)
theorem f176_18 : zft 176 18 = some (.aload_n 0, 1) := fet B176 (by decide +kernel) (Or.inr rfl)
theorem f176_19 : zft 176 19 = some (.iload_n 2, 1) := fet B176 (by decide +kernel) (Or.inr rfl)
theorem f176_20 : zft 176 20 = some (.iload 4, 2) := fet B176 (by decide +kernel) (Or.inr rfl)
theorem f176_22 : zft 176 22 = some (.invokevirtual 274, 3) := fet B176 (by decide +kernel) (Or.inr rfl)
theorem f176_25 : zft 176 25 = some (.aload_n 0, 1) := fet B176 (by decide +kernel) (Or.inr rfl)
theorem f176_26 : zft 176 26 = some (.iload_n 2, 1) := fet B176 (by decide +kernel) (Or.inr rfl)
theorem f176_27 : zft 176 27 = some (.iload_n 3, 1) := fet B176 (by decide +kernel) (Or.inr rfl)
theorem f176_28 : zft 176 28 = some (.invokevirtual 274, 3) := fet B176 (by decide +kernel) (Or.inr rfl)
theorem f176_31 : zft 176 31 = some (.if_icmp .ge 8, 3) := fet B176 (by decide +kernel) (Or.inr rfl)
theorem f176_34 : zft 176 34 = some (.iload 4, 2) := fet B176 (by decide +kernel) (Or.inr rfl)
theorem f176_36 : zft 176 36 = some (.goto 4, 3) := fet B176 (by decide +kernel) (Or.inr rfl)
theorem f176_39 : zft 176 39 = some (.iload_n 3, 1) := fet B176 (by decide +kernel) (Or.inr rfl)
theorem f176_40 : zft 176 40 = some (.istore_n 3, 1) := fet B176 (by decide +kernel) (Or.inr rfl)
theorem f176_41 : zft 176 41 = some (.iinc 4 1, 3) := fet B176 (by decide +kernel) (Or.inr rfl)
theorem f176_44 : zft 176 44 = some (.goto (-33), 3) := fet B176 (by decide +kernel) (Or.inr rfl)
theorem f176_47 : zft 176 47 = some (.iload_n 3, 1) := fet B176 (by decide +kernel) (Or.inr rfl)
theorem f176_48 : zft 176 48 = some (.ireturn, 1) := fet B176 (by decide +kernel) (Or.inr rfl)
theorem x176_0 : Rn S 176 0 [.ref q, v1, v2, v3, v4] st I J Q = Rn S 176 1 [.ref q, v1, v2, v3, v4] (.ref q :: st) I J Q := rL f176_0 rfl rfl
theorem x176_1 : Rn S 176 1 [v0, .int a, v2, v3, v4] st I J Q = Rn S 176 2 [v0, .int a, v2, v3, v4] (.int a :: st) I J Q := rL f176_1 rfl rfl
theorem x176_2 : Rn S 176 2 [v0, v1, v2, v3, v4] (.int a0 :: .ref q :: st) I J Q = ((zcls S q = 6 ∧ zcs st ≤ 8) ∧ Rn S 171 0 [.ref q, .int a0, .null, .null, .null, .null] [] I J (fun v I' J' => Rn S 176 5 [v0, v1, v2, v3, v4] (v.toList ++ st) I' J' Q)) := rCV (As := [.int a0]) f176_2 rfl rfl rfl rfl (Nat.le_of_ble_eq_true rfl)
theorem x176_5 : Rn S 176 5 [v0, v1, v2, v3, v4] (.int a :: st) I J Q = Rn S 176 6 [v0, zkl v1, .int a, v3, v4] st I J Q := rL f176_5 rfl rfl
theorem x176_6 : Rn S 176 6 [v0, v1, v2, v3, v4] st I J Q = Rn S 176 7 [v0, v1, v2, v3, v4] (.int 0 :: st) I J Q := rS f176_6 rfl
theorem x176_7 : Rn S 176 7 [v0, v1, v2, v3, v4] (.int a :: st) I J Q = Rn S 176 8 [v0, v1, zkl v2, .int a, v4] st I J Q := rL f176_7 rfl rfl
theorem x176_8 : Rn S 176 8 [v0, v1, v2, v3, v4] st I J Q = Rn S 176 9 [v0, v1, v2, v3, v4] (.int 1 :: st) I J Q := rS f176_8 rfl
theorem x176_9 : Rn S 176 9 [v0, v1, v2, v3, v4] (.int a :: st) I J Q = Rn S 176 11 [v0, v1, v2, zkl v3, .int a] st I J Q := rL f176_9 rfl rfl
theorem h176_11 : Rn S 176 11 [v0, v1, v2, v3, .int a] st I J Q = Rn S 176 13 [v0, v1, v2, v3, .int a] (.int a :: st) I J Q := rL f176_11 rfl rfl
theorem x176_13 : Rn S 176 13 [v0, v1, v2, v3, v4] st I J Q = Rn S 176 15 [v0, v1, v2, v3, v4] (.int 24 :: st) I J Q := rS f176_13 rfl
theorem x176_15 : Rn S 176 15 [v0, v1, v2, v3, v4] (.int b :: .int a :: st) I J Q = if a < b then Rn S 176 18 [v0, v1, v2, v3, v4] st I J Q else Rn S 176 47 [v0, v1, v2, v3, v4] st I J Q := rCge f176_15 rfl rfl
theorem x176_18 : Rn S 176 18 [.ref q, v1, v2, v3, v4] st I J Q = Rn S 176 19 [.ref q, v1, v2, v3, v4] (.ref q :: st) I J Q := rL f176_18 rfl rfl
theorem x176_19 : Rn S 176 19 [v0, v1, .int a, v3, v4] st I J Q = Rn S 176 20 [v0, v1, .int a, v3, v4] (.int a :: st) I J Q := rL f176_19 rfl rfl
theorem x176_20 : Rn S 176 20 [v0, v1, v2, v3, .int a] st I J Q = Rn S 176 22 [v0, v1, v2, v3, .int a] (.int a :: st) I J Q := rL f176_20 rfl rfl
theorem x176_22 : Rn S 176 22 [v0, v1, v2, v3, v4] (.int a1 :: .int a0 :: .ref q :: st) I J Q = ((zcls S q = 6 ∧ zcs st ≤ 8) ∧ Rn S 175 0 [.ref q, .int a0, .int a1, .null, .null, .null, .null] [] I J (fun v I' J' => Rn S 176 25 [v0, v1, v2, v3, v4] (v.toList ++ st) I' J' Q)) := rCV (As := [.int a0, .int a1]) f176_22 rfl rfl rfl rfl (Nat.le_of_ble_eq_true rfl)
theorem x176_25 : Rn S 176 25 [.ref q, v1, v2, v3, v4] st I J Q = Rn S 176 26 [.ref q, v1, v2, v3, v4] (.ref q :: st) I J Q := rL f176_25 rfl rfl
theorem x176_26 : Rn S 176 26 [v0, v1, .int a, v3, v4] st I J Q = Rn S 176 27 [v0, v1, .int a, v3, v4] (.int a :: st) I J Q := rL f176_26 rfl rfl
theorem x176_27 : Rn S 176 27 [v0, v1, v2, .int a, v4] st I J Q = Rn S 176 28 [v0, v1, v2, .int a, v4] (.int a :: st) I J Q := rL f176_27 rfl rfl
theorem x176_28 : Rn S 176 28 [v0, v1, v2, v3, v4] (.int a1 :: .int a0 :: .ref q :: st) I J Q = ((zcls S q = 6 ∧ zcs st ≤ 8) ∧ Rn S 175 0 [.ref q, .int a0, .int a1, .null, .null, .null, .null] [] I J (fun v I' J' => Rn S 176 31 [v0, v1, v2, v3, v4] (v.toList ++ st) I' J' Q)) := rCV (As := [.int a0, .int a1]) f176_28 rfl rfl rfl rfl (Nat.le_of_ble_eq_true rfl)
theorem x176_31 : Rn S 176 31 [v0, v1, v2, v3, v4] (.int b :: .int a :: st) I J Q = if a < b then Rn S 176 34 [v0, v1, v2, v3, v4] st I J Q else Rn S 176 39 [v0, v1, v2, v3, v4] st I J Q := rCge f176_31 rfl rfl
theorem x176_34 : Rn S 176 34 [v0, v1, v2, v3, .int a] st I J Q = Rn S 176 36 [v0, v1, v2, v3, .int a] (.int a :: st) I J Q := rL f176_34 rfl rfl
theorem x176_36 : Rn S 176 36 [v0, v1, v2, v3, v4] st I J Q = Rn S 176 40 [v0, v1, v2, v3, v4] st I J Q := rB f176_36 rfl rfl rfl
theorem x176_39 : Rn S 176 39 [v0, v1, v2, .int a, v4] st I J Q = Rn S 176 40 [v0, v1, v2, .int a, v4] (.int a :: st) I J Q := rL f176_39 rfl rfl
theorem x176_40 : Rn S 176 40 [v0, v1, v2, v3, v4] (.int a :: st) I J Q = Rn S 176 41 [v0, v1, zkl v2, .int a, v4] st I J Q := rL f176_40 rfl rfl
theorem x176_41 : Rn S 176 41 [v0, v1, v2, v3, .int a] st I J Q = Rn S 176 44 [v0, v1, v2, zkl v3, .int (a + 1)] st I J Q := rL f176_41 rfl rfl
theorem x176_44 : Rn S 176 44 [v0, v1, v2, v3, v4] st I J Q = Rn S 176 11 [v0, v1, v2, v3, v4] st I J Q := rB f176_44 rfl rfl rfl
theorem x176_47 : Rn S 176 47 [v0, v1, v2, .int a, v4] st I J Q = Rn S 176 48 [v0, v1, v2, .int a, v4] (.int a :: st) I J Q := rL f176_47 rfl rfl
theorem x176_48 : Rn S 176 48 [v0, v1, v2, v3, v4] [.int a] I J Q = Q (some (.int a)) I J := rR f176_48 rfl rfl rfl rfl rfl
/-! X6.ask: 177 -/
theorem B177 : zB 177 = cX6_ask := rfl
theorem f177_0 : zft 177 0 = some (.aload_n 0, 1) := fet B177 (by decide +kernel) (Or.inr rfl)
theorem f177_1 : zft 177 1 = some (.invokevirtual 205, 3) := fet B177 (by decide +kernel) (Or.inr rfl)
theorem f177_4 : zft 177 4 = some (.aload_n 0, 1) := fet B177 (by decide +kernel) (Or.inr rfl)
theorem f177_5 : zft 177 5 = some (.iload_n 1, 1) := fet B177 (by decide +kernel) (Or.inr rfl)
theorem f177_6 : zft 177 6 = some (.invokevirtual 161, 3) := fet B177 (by decide +kernel) (Or.inr rfl)
theorem f177_9 : zft 177 9 = some (.ifCond .eq 11, 3) := fet B177 (by decide +kernel) (Or.inr rfl)
theorem f177_12 : zft 177 12 = some (.aload_n 0, 1) := fet B177 (by decide +kernel) (Or.inr rfl)
theorem f177_13 : zft 177 13 = some (.iload_n 1, 1) := fet B177 (by decide +kernel) (Or.inr rfl)
theorem f177_14 : zft 177 14 = some (.invokevirtual 277, 3) := fet B177 (by decide +kernel) (Or.inr rfl)
theorem f177_17 : zft 177 17 = some (.goto 5, 3) := fet B177 (by decide +kernel) (Or.inr rfl)
theorem f177_20 : zft 177 20 = some (.bipush (-2), 2) := fet B177 (by decide +kernel) (Or.inr rfl)
theorem f177_22 : zft 177 22 = some (.ireturn, 1) := fet B177 (by decide +kernel) (Or.inr rfl)
theorem x177_0 : Rn S 177 0 [.ref q, v1] st I J Q = Rn S 177 1 [.ref q, v1] (.ref q :: st) I J Q := rL f177_0 rfl rfl
theorem x177_1 : Rn S 177 1 [v0, v1] (.ref q :: st) I J Q = ((zcls S q = 6 ∧ zcs st ≤ 8) ∧ Rn S 141 0 [.ref q] [] I J (fun v I' J' => Rn S 177 4 [v0, v1] (v.toList ++ st) I' J' Q)) := rCV (As := []) f177_1 rfl rfl rfl rfl (Nat.le_of_ble_eq_true rfl)
theorem x177_4 : Rn S 177 4 [.ref q, v1] st I J Q = Rn S 177 5 [.ref q, v1] (.ref q :: st) I J Q := rL f177_4 rfl rfl
theorem x177_5 : Rn S 177 5 [v0, .int a] st I J Q = Rn S 177 6 [v0, .int a] (.int a :: st) I J Q := rL f177_5 rfl rfl
theorem x177_6 : Rn S 177 6 [v0, v1] (.int a0 :: .ref q :: st) I J Q = ((zcls S q = 6 ∧ zcs st ≤ 8) ∧ Rn S 127 0 [.ref q, .int a0] [] I J (fun v I' J' => Rn S 177 9 [v0, v1] (v.toList ++ st) I' J' Q)) := rCV (As := [.int a0]) f177_6 rfl rfl rfl rfl (Nat.le_of_ble_eq_true rfl)
theorem x177_9 : Rn S 177 9 [v0, v1] (.int a :: st) I J Q = if a = 0 then Rn S 177 20 [v0, v1] st I J Q else Rn S 177 12 [v0, v1] st I J Q := rIeq f177_9 rfl rfl
theorem x177_12 : Rn S 177 12 [.ref q, v1] st I J Q = Rn S 177 13 [.ref q, v1] (.ref q :: st) I J Q := rL f177_12 rfl rfl
theorem x177_13 : Rn S 177 13 [v0, .int a] st I J Q = Rn S 177 14 [v0, .int a] (.int a :: st) I J Q := rL f177_13 rfl rfl
theorem x177_14 : Rn S 177 14 [v0, v1] (.int a0 :: .ref q :: st) I J Q = ((zcls S q = 6 ∧ zcs st ≤ 8) ∧ Rn S 176 0 [.ref q, .int a0, .null, .null, .null] [] I J (fun v I' J' => Rn S 177 17 [v0, v1] (v.toList ++ st) I' J' Q)) := rCV (As := [.int a0]) f177_14 rfl rfl rfl rfl (Nat.le_of_ble_eq_true rfl)
theorem x177_17 : Rn S 177 17 [v0, v1] st I J Q = Rn S 177 22 [v0, v1] st I J Q := rB f177_17 rfl rfl rfl
theorem x177_20 : Rn S 177 20 [v0, v1] st I J Q = Rn S 177 22 [v0, v1] (.int (-2) :: st) I J Q := rS f177_20 rfl
theorem x177_22 : Rn S 177 22 [v0, v1] [.int a] I J Q = Q (some (.int a)) I J := rR f177_22 rfl rfl rfl rfl rfl
/-! X6.chanceOf: 178 -/
theorem B178 : zB 178 = cX6_chanceOf := rfl
theorem f178_0 : zft 178 0 = some (.lconst 0, 1) := fet B178 (by decide +kernel) (Or.inr rfl)
theorem f178_1 : zft 178 1 = some (.lstore 4, 2) := fet B178 (by decide +kernel) (Or.inr rfl)
theorem f178_3 : zft 178 3 = some (.iconst 0, 1) := fet B178 (by decide +kernel) (Or.inr rfl)
theorem f178_4 : zft 178 4 = some (.istore 6, 2) := fet B178 (by decide +kernel) (Or.inr rfl)
theorem f178_6 : zft 178 6 = some (.iload 6, 2) := fet B178 (by decide +kernel) (Or.inr rfl)
theorem f178_8 : zft 178 8 = some (.iconst 1, 1) := fet B178 (by decide +kernel) (Or.inr rfl)
theorem f178_9 : zft 178 9 = some (.aload_n 0, 1) := fet B178 (by decide +kernel) (Or.inr rfl)
theorem f178_10 : zft 178 10 = some (.getfield 179, 3) := fet B178 (by decide +kernel) (Or.inr rfl)
theorem f178_13 : zft 178 13 = some (.ishl, 1) := fet B178 (by decide +kernel) (Or.inr rfl)
theorem f178_14 : zft 178 14 = some (.if_icmp .ge 86, 3) := fet B178 (by decide +kernel) (Or.inr rfl)
theorem f178_17 : zft 178 17 = some (.aload_n 0, 1) := fet B178 (by decide +kernel) (Or.inr rfl)
theorem f178_18 : zft 178 18 = some (.iload 6, 2) := fet B178 (by decide +kernel) (Or.inr rfl)
theorem f178_20 : zft 178 20 = some (.putfield 184, 3) := fet B178 (by decide +kernel) (Or.inr rfl)
theorem f178_23 : zft 178 23 = some (.aload_n 0, 1) := fet B178 (by decide +kernel) (Or.inr rfl)
theorem f178_24 : zft 178 24 = some (.invokevirtual 202, 3) := fet B178 (by decide +kernel) (Or.inr rfl)
theorem f178_27 : zft 178 27 = some (.aload_n 0, 1) := fet B178 (by decide +kernel) (Or.inr rfl)
theorem f178_28 : zft 178 28 = some (.getfield 65, 3) := fet B178 (by decide +kernel) (Or.inr rfl)
theorem f178_31 : zft 178 31 = some (.iload_n 2, 1) := fet B178 (by decide +kernel) (Or.inr rfl)
theorem f178_32 : zft 178 32 = some (.iaload, 1) := fet B178 (by decide +kernel) (Or.inr rfl)
theorem f178_33 : zft 178 33 = some (.iconst (-1), 1) := fet B178 (by decide +kernel) (Or.inr rfl)
theorem f178_34 : zft 178 34 = some (.if_icmp .ne 7, 3) := fet B178 (by decide +kernel) (Or.inr rfl)
theorem f178_37 : zft 178 37 = some (.lconst 0, 1) := fet B178 (by decide +kernel) (Or.inr rfl)
theorem f178_38 : zft 178 38 = some (.goto 4, 3) := fet B178 (by decide +kernel) (Or.inr rfl)
theorem f178_41 : zft 178 41 = some (.lconst 1, 1) := fet B178 (by decide +kernel) (Or.inr rfl)
theorem f178_42 : zft 178 42 = some (.lstore 7, 2) := fet B178 (by decide +kernel) (Or.inr rfl)
theorem f178_44 : zft 178 44 = some (.iconst 0, 1) := fet B178 (by decide +kernel) (Or.inr rfl)
theorem f178_45 : zft 178 45 = some (.istore 9, 2) := fet B178 (by decide +kernel) (Or.inr rfl)
theorem f178_47 : zft 178 47 = some (.iload 9, 2) := fet B178 (by decide +kernel) (Or.inr rfl)
theorem f178_49 : zft 178 49 = some (.aload_n 0, 1) := fet B178 (by decide +kernel) (Or.inr rfl)
theorem f178_50 : zft 178 50 = some (.getfield 179, 3) := fet B178 (by decide +kernel) (Or.inr rfl)
theorem f178_53 : zft 178 53 = some (.if_icmp .ge 34, 3) := fet B178 (by decide +kernel) (Or.inr rfl)
theorem f178_56 : zft 178 56 = some (.lload 7, 2) := fet B178 (by decide +kernel) (Or.inr rfl)
theorem f178_58 : zft 178 58 = some (.iload 6, 2) := fet B178 (by decide +kernel) (Or.inr rfl)
theorem f178_60 : zft 178 60 = some (.iload 9, 2) := fet B178 (by decide +kernel) (Or.inr rfl)
theorem f178_62 : zft 178 62 = some (.invokestatic 187, 3) := fet B178 (by decide +kernel) (Or.inr rfl)
theorem f178_65 : zft 178 65 = some (.ifCond .eq 11, 3) := fet B178 (by decide +kernel) (Or.inr rfl)
theorem f178_68 : zft 178 68 = some (.bipush 16, 2) := fet B178 (by decide +kernel) (Or.inr rfl)
theorem f178_70 : zft 178 70 = some (.iload_n 1, 1) := fet B178 (by decide +kernel) (Or.inr rfl)
theorem f178_71 : zft 178 71 = some (.isub, 1) := fet B178 (by decide +kernel) (Or.inr rfl)
theorem f178_72 : zft 178 72 = some (.i2l, 1) := fet B178 (by decide +kernel) (Or.inr rfl)
theorem f178_73 : zft 178 73 = some (.goto 5, 3) := fet B178 (by decide +kernel) (Or.inr rfl)
theorem f178_76 : zft 178 76 = some (.iload_n 1, 1) := fet B178 (by decide +kernel) (Or.inr rfl)
theorem f178_77 : zft 178 77 = some (.i2l, 1) := fet B178 (by decide +kernel) (Or.inr rfl)
theorem f178_78 : zft 178 78 = some (.lmul, 1) := fet B178 (by decide +kernel) (Or.inr rfl)
theorem f178_79 : zft 178 79 = some (.lstore 7, 2) := fet B178 (by decide +kernel) (Or.inr rfl)
theorem f178_81 : zft 178 81 = some (.iinc 9 1, 3) := fet B178 (by decide +kernel) (Or.inr rfl)
theorem f178_84 : zft 178 84 = some (.goto (-37), 3) := fet B178 (by decide +kernel) (Or.inr rfl)
theorem f178_87 : zft 178 87 = some (.lload 4, 2) := fet B178 (by decide +kernel) (Or.inr rfl)
theorem f178_89 : zft 178 89 = some (.lload 7, 2) := fet B178 (by decide +kernel) (Or.inr rfl)
theorem f178_91 : zft 178 91 = some (.ladd, 1) := fet B178 (by decide +kernel) (Or.inr rfl)
theorem f178_92 : zft 178 92 = some (.lstore 4, 2) := fet B178 (by decide +kernel) (Or.inr rfl)
theorem f178_94 : zft 178 94 = some (.iinc 6 1, 3) := fet B178 (by decide +kernel) (Or.inr rfl)
theorem f178_97 : zft 178 97 = some (.goto (-91), 3) := fet B178 (by decide +kernel) (Or.inr rfl)
theorem f178_100 : zft 178 100 = some (.aload_n 0, 1) := fet B178 (by decide +kernel) (Or.inr rfl)
theorem f178_101 : zft 178 101 = some (.iconst 0, 1) := fet B178 (by decide +kernel) (Or.inr rfl)
theorem f178_102 : zft 178 102 = some (.putfield 184, 3) := fet B178 (by decide +kernel) (Or.inr rfl)
theorem f178_105 : zft 178 105 = some (.lload 4, 2) := fet B178 (by decide +kernel) (Or.inr rfl)
theorem f178_107 : zft 178 107 = some (.lconst 1, 1) := fet B178 (by decide +kernel) (Or.inr rfl)
theorem f178_108 : zft 178 108 = some (.iconst 4, 1) := fet B178 (by decide +kernel) (Or.inr rfl)
theorem f178_109 : zft 178 109 = some (.aload_n 0, 1) := fet B178 (by decide +kernel) (Or.inr rfl)
theorem f178_110 : zft 178 110 = some (.getfield 179, 3) := fet B178 (by decide +kernel) (Or.inr rfl)
theorem f178_113 : zft 178 113 = some (.imul, 1) := fet B178 (by decide +kernel) (Or.inr rfl)
theorem f178_114 : zft 178 114 = some (.lshl, 1) := fet B178 (by decide +kernel) (Or.inr rfl)
theorem f178_115 : zft 178 115 = some (.iload_n 3, 1) := fet B178 (by decide +kernel) (Or.inr rfl)
theorem f178_116 : zft 178 116 = some (.invokestatic 280, 3) := fet B178 (by decide +kernel) (Or.inr rfl)
theorem f178_119 : zft 178 119 = some (.lreturn, 1) := fet B178 (by decide +kernel) (Or.inr rfl)
theorem x178_0 : Rn S 178 0 [v0, v1, v2, v3, v4, v5, v6, v7, v8, v9] st I J Q = Rn S 178 1 [v0, v1, v2, v3, v4, v5, v6, v7, v8, v9] (.long 0 :: st) I J Q := rS f178_0 rfl
theorem x178_1 : Rn S 178 1 [v0, v1, v2, v3, v4, v5, v6, v7, v8, v9] (.long u :: st) I J Q = Rn S 178 3 [v0, v1, v2, zkl v3, .long u, .null, v6, v7, v8, v9] st I J Q := rL f178_1 rfl rfl
theorem x178_3 : Rn S 178 3 [v0, v1, v2, v3, v4, v5, v6, v7, v8, v9] st I J Q = Rn S 178 4 [v0, v1, v2, v3, v4, v5, v6, v7, v8, v9] (.int 0 :: st) I J Q := rS f178_3 rfl
theorem x178_4 : Rn S 178 4 [v0, v1, v2, v3, v4, v5, v6, v7, v8, v9] (.int a :: st) I J Q = Rn S 178 6 [v0, v1, v2, v3, v4, zkl v5, .int a, v7, v8, v9] st I J Q := rL f178_4 rfl rfl
theorem h178_6 : Rn S 178 6 [v0, v1, v2, v3, v4, v5, .int a, v7, v8, v9] st I J Q = Rn S 178 8 [v0, v1, v2, v3, v4, v5, .int a, v7, v8, v9] (.int a :: st) I J Q := rL f178_6 rfl rfl
theorem x178_8 : Rn S 178 8 [v0, v1, v2, v3, v4, v5, v6, v7, v8, v9] st I J Q = Rn S 178 9 [v0, v1, v2, v3, v4, v5, v6, v7, v8, v9] (.int 1 :: st) I J Q := rS f178_8 rfl
theorem x178_9 : Rn S 178 9 [.ref q, v1, v2, v3, v4, v5, v6, v7, v8, v9] st I J Q = Rn S 178 10 [.ref q, v1, v2, v3, v4, v5, v6, v7, v8, v9] (.ref q :: st) I J Q := rL f178_9 rfl rfl
theorem x178_10_65 : Rn (zG xl) 178 10 [v0, v1, v2, v3, v4, v5, v6, v7, v8, v9] (.ref 65 :: st) I J Q = Rn (zG xl) 178 13 [v0, v1, v2, v3, v4, v5, v6, v7, v8, v9] (.int (I 65 14) :: st) I J Q := (rGf f178_10 rfl).trans (tr_and rfl)
theorem x178_13 : Rn S 178 13 [v0, v1, v2, v3, v4, v5, v6, v7, v8, v9] (.int b :: .int a :: st) I J Q = Rn S 178 14 [v0, v1, v2, v3, v4, v5, v6, v7, v8, v9] (.int (a <<< (b &&& 31)) :: st) I J Q := rS f178_13 rfl
theorem x178_14 : Rn S 178 14 [v0, v1, v2, v3, v4, v5, v6, v7, v8, v9] (.int b :: .int a :: st) I J Q = if a < b then Rn S 178 17 [v0, v1, v2, v3, v4, v5, v6, v7, v8, v9] st I J Q else Rn S 178 100 [v0, v1, v2, v3, v4, v5, v6, v7, v8, v9] st I J Q := rCge f178_14 rfl rfl
theorem x178_17 : Rn S 178 17 [.ref q, v1, v2, v3, v4, v5, v6, v7, v8, v9] st I J Q = Rn S 178 18 [.ref q, v1, v2, v3, v4, v5, v6, v7, v8, v9] (.ref q :: st) I J Q := rL f178_17 rfl rfl
theorem x178_18 : Rn S 178 18 [v0, v1, v2, v3, v4, v5, .int a, v7, v8, v9] st I J Q = Rn S 178 20 [v0, v1, v2, v3, v4, v5, .int a, v7, v8, v9] (.int a :: st) I J Q := rL f178_18 rfl rfl
theorem x178_20_65 : Rn (zG xl) 178 20 [v0, v1, v2, v3, v4, v5, v6, v7, v8, v9] (.int a :: .ref 65 :: st) I J Q = Rn (zG xl) 178 23 [v0, v1, v2, v3, v4, v5, v6, v7, v8, v9] st (zr I 65 (upd (I 65) 16 a)) J Q := (rPf f178_20 rfl).trans (tr_pf rfl rfl rfl)
theorem x178_23 : Rn S 178 23 [.ref q, v1, v2, v3, v4, v5, v6, v7, v8, v9] st I J Q = Rn S 178 24 [.ref q, v1, v2, v3, v4, v5, v6, v7, v8, v9] (.ref q :: st) I J Q := rL f178_23 rfl rfl
theorem x178_24 : Rn S 178 24 [v0, v1, v2, v3, v4, v5, v6, v7, v8, v9] (.ref q :: st) I J Q = ((zcls S q = 6 ∧ zcs st ≤ 8) ∧ Rn S 140 0 [.ref q, .null] [] I J (fun v I' J' => Rn S 178 27 [v0, v1, v2, v3, v4, v5, v6, v7, v8, v9] (v.toList ++ st) I' J' Q)) := rCV (As := []) f178_24 rfl rfl rfl rfl (Nat.le_of_ble_eq_true rfl)
theorem x178_27 : Rn S 178 27 [.ref q, v1, v2, v3, v4, v5, v6, v7, v8, v9] st I J Q = Rn S 178 28 [.ref q, v1, v2, v3, v4, v5, v6, v7, v8, v9] (.ref q :: st) I J Q := rL f178_27 rfl rfl
theorem x178_28_65 : Rn (zG xl) 178 28 [v0, v1, v2, v3, v4, v5, v6, v7, v8, v9] (.ref 65 :: st) I J Q = Rn (zG xl) 178 31 [v0, v1, v2, v3, v4, v5, v6, v7, v8, v9] (.ref 84 :: st) I J Q := (rGf f178_28 rfl).trans (tr_and rfl)
theorem x178_31 : Rn S 178 31 [v0, v1, .int a, v3, v4, v5, v6, v7, v8, v9] st I J Q = Rn S 178 32 [v0, v1, .int a, v3, v4, v5, v6, v7, v8, v9] (.int a :: st) I J Q := rL f178_31 rfl rfl
theorem x178_32 : Rn S 178 32 [v0, v1, v2, v3, v4, v5, v6, v7, v8, v9] (.int a :: .ref q :: st) I J Q = (zai S q a ∧ Rn S 178 33 [v0, v1, v2, v3, v4, v5, v6, v7, v8, v9] (.int (I q a.toNatClampNeg) :: st) I J Q) := rIal f178_32
theorem x178_33 : Rn S 178 33 [v0, v1, v2, v3, v4, v5, v6, v7, v8, v9] st I J Q = Rn S 178 34 [v0, v1, v2, v3, v4, v5, v6, v7, v8, v9] (.int (-1) :: st) I J Q := rS f178_33 rfl
theorem x178_34 : Rn S 178 34 [v0, v1, v2, v3, v4, v5, v6, v7, v8, v9] (.int b :: .int a :: st) I J Q = if a = b then Rn S 178 37 [v0, v1, v2, v3, v4, v5, v6, v7, v8, v9] st I J Q else Rn S 178 41 [v0, v1, v2, v3, v4, v5, v6, v7, v8, v9] st I J Q := rCne f178_34 rfl rfl
theorem x178_37 : Rn S 178 37 [v0, v1, v2, v3, v4, v5, v6, v7, v8, v9] st I J Q = Rn S 178 38 [v0, v1, v2, v3, v4, v5, v6, v7, v8, v9] (.long 0 :: st) I J Q := rS f178_37 rfl
theorem x178_38 : Rn S 178 38 [v0, v1, v2, v3, v4, v5, v6, v7, v8, v9] st I J Q = Rn S 178 42 [v0, v1, v2, v3, v4, v5, v6, v7, v8, v9] st I J Q := rB f178_38 rfl rfl rfl
theorem x178_41 : Rn S 178 41 [v0, v1, v2, v3, v4, v5, v6, v7, v8, v9] st I J Q = Rn S 178 42 [v0, v1, v2, v3, v4, v5, v6, v7, v8, v9] (.long 1 :: st) I J Q := rS f178_41 rfl
theorem x178_42 : Rn S 178 42 [v0, v1, v2, v3, v4, v5, v6, v7, v8, v9] (.long u :: st) I J Q = Rn S 178 44 [v0, v1, v2, v3, v4, v5, zkl v6, .long u, .null, v9] st I J Q := rL f178_42 rfl rfl
theorem x178_44 : Rn S 178 44 [v0, v1, v2, v3, v4, v5, v6, v7, v8, v9] st I J Q = Rn S 178 45 [v0, v1, v2, v3, v4, v5, v6, v7, v8, v9] (.int 0 :: st) I J Q := rS f178_44 rfl
theorem x178_45 : Rn S 178 45 [v0, v1, v2, v3, v4, v5, v6, v7, v8, v9] (.int a :: st) I J Q = Rn S 178 47 [v0, v1, v2, v3, v4, v5, v6, v7, zkl v8, .int a] st I J Q := rL f178_45 rfl rfl
theorem h178_47 : Rn S 178 47 [v0, v1, v2, v3, v4, v5, v6, v7, v8, .int a] st I J Q = Rn S 178 49 [v0, v1, v2, v3, v4, v5, v6, v7, v8, .int a] (.int a :: st) I J Q := rL f178_47 rfl rfl
theorem x178_49 : Rn S 178 49 [.ref q, v1, v2, v3, v4, v5, v6, v7, v8, v9] st I J Q = Rn S 178 50 [.ref q, v1, v2, v3, v4, v5, v6, v7, v8, v9] (.ref q :: st) I J Q := rL f178_49 rfl rfl
theorem x178_50_65 : Rn (zG xl) 178 50 [v0, v1, v2, v3, v4, v5, v6, v7, v8, v9] (.ref 65 :: st) I J Q = Rn (zG xl) 178 53 [v0, v1, v2, v3, v4, v5, v6, v7, v8, v9] (.int (I 65 14) :: st) I J Q := (rGf f178_50 rfl).trans (tr_and rfl)
theorem x178_53 : Rn S 178 53 [v0, v1, v2, v3, v4, v5, v6, v7, v8, v9] (.int b :: .int a :: st) I J Q = if a < b then Rn S 178 56 [v0, v1, v2, v3, v4, v5, v6, v7, v8, v9] st I J Q else Rn S 178 87 [v0, v1, v2, v3, v4, v5, v6, v7, v8, v9] st I J Q := rCge f178_53 rfl rfl
theorem x178_56 : Rn S 178 56 [v0, v1, v2, v3, v4, v5, v6, .long u, v8, v9] st I J Q = Rn S 178 58 [v0, v1, v2, v3, v4, v5, v6, .long u, v8, v9] (.long u :: st) I J Q := rL f178_56 rfl rfl
theorem x178_58 : Rn S 178 58 [v0, v1, v2, v3, v4, v5, .int a, v7, v8, v9] st I J Q = Rn S 178 60 [v0, v1, v2, v3, v4, v5, .int a, v7, v8, v9] (.int a :: st) I J Q := rL f178_58 rfl rfl
theorem x178_60 : Rn S 178 60 [v0, v1, v2, v3, v4, v5, v6, v7, v8, .int a] st I J Q = Rn S 178 62 [v0, v1, v2, v3, v4, v5, v6, v7, v8, .int a] (.int a :: st) I J Q := rL f178_60 rfl rfl
theorem x178_62 : Rn S 178 62 [v0, v1, v2, v3, v4, v5, v6, v7, v8, v9] (.int a1 :: .int a0 :: st) I J Q = (zcs st ≤ 8 ∧ Rn S 99 0 [.int a0, .int a1] [] I J (fun v I' J' => Rn S 178 65 [v0, v1, v2, v3, v4, v5, v6, v7, v8, v9] (v.toList ++ st) I' J' Q)) := rCS (As := [.int a0, .int a1]) f178_62 rfl rfl rfl rfl (Nat.le_of_ble_eq_true rfl)
theorem x178_65 : Rn S 178 65 [v0, v1, v2, v3, v4, v5, v6, v7, v8, v9] (.int a :: st) I J Q = if a = 0 then Rn S 178 76 [v0, v1, v2, v3, v4, v5, v6, v7, v8, v9] st I J Q else Rn S 178 68 [v0, v1, v2, v3, v4, v5, v6, v7, v8, v9] st I J Q := rIeq f178_65 rfl rfl
theorem x178_68 : Rn S 178 68 [v0, v1, v2, v3, v4, v5, v6, v7, v8, v9] st I J Q = Rn S 178 70 [v0, v1, v2, v3, v4, v5, v6, v7, v8, v9] (.int 16 :: st) I J Q := rS f178_68 rfl
theorem x178_70 : Rn S 178 70 [v0, .int a, v2, v3, v4, v5, v6, v7, v8, v9] st I J Q = Rn S 178 71 [v0, .int a, v2, v3, v4, v5, v6, v7, v8, v9] (.int a :: st) I J Q := rL f178_70 rfl rfl
theorem x178_71 : Rn S 178 71 [v0, v1, v2, v3, v4, v5, v6, v7, v8, v9] (.int b :: .int a :: st) I J Q = Rn S 178 72 [v0, v1, v2, v3, v4, v5, v6, v7, v8, v9] (.int (a - b) :: st) I J Q := rS f178_71 rfl
theorem x178_72 : Rn S 178 72 [v0, v1, v2, v3, v4, v5, v6, v7, v8, v9] (.int a :: st) I J Q = Rn S 178 73 [v0, v1, v2, v3, v4, v5, v6, v7, v8, v9] (.long a.toInt64 :: st) I J Q := rS f178_72 rfl
theorem x178_73 : Rn S 178 73 [v0, v1, v2, v3, v4, v5, v6, v7, v8, v9] st I J Q = Rn S 178 78 [v0, v1, v2, v3, v4, v5, v6, v7, v8, v9] st I J Q := rB f178_73 rfl rfl rfl
theorem x178_76 : Rn S 178 76 [v0, .int a, v2, v3, v4, v5, v6, v7, v8, v9] st I J Q = Rn S 178 77 [v0, .int a, v2, v3, v4, v5, v6, v7, v8, v9] (.int a :: st) I J Q := rL f178_76 rfl rfl
theorem x178_77 : Rn S 178 77 [v0, v1, v2, v3, v4, v5, v6, v7, v8, v9] (.int a :: st) I J Q = Rn S 178 78 [v0, v1, v2, v3, v4, v5, v6, v7, v8, v9] (.long a.toInt64 :: st) I J Q := rS f178_77 rfl
theorem x178_78 : Rn S 178 78 [v0, v1, v2, v3, v4, v5, v6, v7, v8, v9] (.long w :: .long u :: st) I J Q = Rn S 178 79 [v0, v1, v2, v3, v4, v5, v6, v7, v8, v9] (.long (u * w) :: st) I J Q := rS f178_78 rfl
theorem x178_79 : Rn S 178 79 [v0, v1, v2, v3, v4, v5, v6, v7, v8, v9] (.long u :: st) I J Q = Rn S 178 81 [v0, v1, v2, v3, v4, v5, zkl v6, .long u, .null, v9] st I J Q := rL f178_79 rfl rfl
theorem x178_81 : Rn S 178 81 [v0, v1, v2, v3, v4, v5, v6, v7, v8, .int a] st I J Q = Rn S 178 84 [v0, v1, v2, v3, v4, v5, v6, v7, zkl v8, .int (a + 1)] st I J Q := rL f178_81 rfl rfl
theorem x178_84 : Rn S 178 84 [v0, v1, v2, v3, v4, v5, v6, v7, v8, v9] st I J Q = Rn S 178 47 [v0, v1, v2, v3, v4, v5, v6, v7, v8, v9] st I J Q := rB f178_84 rfl rfl rfl
theorem x178_87 : Rn S 178 87 [v0, v1, v2, v3, .long u, v5, v6, v7, v8, v9] st I J Q = Rn S 178 89 [v0, v1, v2, v3, .long u, v5, v6, v7, v8, v9] (.long u :: st) I J Q := rL f178_87 rfl rfl
theorem x178_89 : Rn S 178 89 [v0, v1, v2, v3, v4, v5, v6, .long u, v8, v9] st I J Q = Rn S 178 91 [v0, v1, v2, v3, v4, v5, v6, .long u, v8, v9] (.long u :: st) I J Q := rL f178_89 rfl rfl
theorem x178_91 : Rn S 178 91 [v0, v1, v2, v3, v4, v5, v6, v7, v8, v9] (.long w :: .long u :: st) I J Q = Rn S 178 92 [v0, v1, v2, v3, v4, v5, v6, v7, v8, v9] (.long (u + w) :: st) I J Q := rS f178_91 rfl
theorem x178_92 : Rn S 178 92 [v0, v1, v2, v3, v4, v5, v6, v7, v8, v9] (.long u :: st) I J Q = Rn S 178 94 [v0, v1, v2, zkl v3, .long u, .null, v6, v7, v8, v9] st I J Q := rL f178_92 rfl rfl
theorem x178_94 : Rn S 178 94 [v0, v1, v2, v3, v4, v5, .int a, v7, v8, v9] st I J Q = Rn S 178 97 [v0, v1, v2, v3, v4, zkl v5, .int (a + 1), v7, v8, v9] st I J Q := rL f178_94 rfl rfl
theorem x178_97 : Rn S 178 97 [v0, v1, v2, v3, v4, v5, v6, v7, v8, v9] st I J Q = Rn S 178 6 [v0, v1, v2, v3, v4, v5, v6, v7, v8, v9] st I J Q := rB f178_97 rfl rfl rfl
theorem x178_100 : Rn S 178 100 [.ref q, v1, v2, v3, v4, v5, v6, v7, v8, v9] st I J Q = Rn S 178 101 [.ref q, v1, v2, v3, v4, v5, v6, v7, v8, v9] (.ref q :: st) I J Q := rL f178_100 rfl rfl
theorem x178_101 : Rn S 178 101 [v0, v1, v2, v3, v4, v5, v6, v7, v8, v9] st I J Q = Rn S 178 102 [v0, v1, v2, v3, v4, v5, v6, v7, v8, v9] (.int 0 :: st) I J Q := rS f178_101 rfl
theorem x178_102_65 : Rn (zG xl) 178 102 [v0, v1, v2, v3, v4, v5, v6, v7, v8, v9] (.int a :: .ref 65 :: st) I J Q = Rn (zG xl) 178 105 [v0, v1, v2, v3, v4, v5, v6, v7, v8, v9] st (zr I 65 (upd (I 65) 16 a)) J Q := (rPf f178_102 rfl).trans (tr_pf rfl rfl rfl)
theorem x178_105 : Rn S 178 105 [v0, v1, v2, v3, .long u, v5, v6, v7, v8, v9] st I J Q = Rn S 178 107 [v0, v1, v2, v3, .long u, v5, v6, v7, v8, v9] (.long u :: st) I J Q := rL f178_105 rfl rfl
theorem x178_107 : Rn S 178 107 [v0, v1, v2, v3, v4, v5, v6, v7, v8, v9] st I J Q = Rn S 178 108 [v0, v1, v2, v3, v4, v5, v6, v7, v8, v9] (.long 1 :: st) I J Q := rS f178_107 rfl
theorem x178_108 : Rn S 178 108 [v0, v1, v2, v3, v4, v5, v6, v7, v8, v9] st I J Q = Rn S 178 109 [v0, v1, v2, v3, v4, v5, v6, v7, v8, v9] (.int 4 :: st) I J Q := rS f178_108 rfl
theorem x178_109 : Rn S 178 109 [.ref q, v1, v2, v3, v4, v5, v6, v7, v8, v9] st I J Q = Rn S 178 110 [.ref q, v1, v2, v3, v4, v5, v6, v7, v8, v9] (.ref q :: st) I J Q := rL f178_109 rfl rfl
theorem x178_110_65 : Rn (zG xl) 178 110 [v0, v1, v2, v3, v4, v5, v6, v7, v8, v9] (.ref 65 :: st) I J Q = Rn (zG xl) 178 113 [v0, v1, v2, v3, v4, v5, v6, v7, v8, v9] (.int (I 65 14) :: st) I J Q := (rGf f178_110 rfl).trans (tr_and rfl)
theorem x178_113 : Rn S 178 113 [v0, v1, v2, v3, v4, v5, v6, v7, v8, v9] (.int b :: .int a :: st) I J Q = Rn S 178 114 [v0, v1, v2, v3, v4, v5, v6, v7, v8, v9] (.int (a * b) :: st) I J Q := rS f178_113 rfl
theorem x178_114 : Rn S 178 114 [v0, v1, v2, v3, v4, v5, v6, v7, v8, v9] (.int b :: .long u :: st) I J Q = Rn S 178 115 [v0, v1, v2, v3, v4, v5, v6, v7, v8, v9] (.long (u <<< (b.toInt64 &&& 63)) :: st) I J Q := rS f178_114 rfl
theorem x178_115 : Rn S 178 115 [v0, v1, v2, .int a, v4, v5, v6, v7, v8, v9] st I J Q = Rn S 178 116 [v0, v1, v2, .int a, v4, v5, v6, v7, v8, v9] (.int a :: st) I J Q := rL f178_115 rfl rfl
theorem x178_116 : Rn S 178 116 [v0, v1, v2, v3, v4, v5, v6, v7, v8, v9] (.int a2 :: .long u1 :: .long u0 :: st) I J Q = (zcs st ≤ 8 ∧ Rn S 103 0 [.long u0, .null, .long u1, .null, .int a2, .null, .null, .null, .null, .null, .null] [] I J (fun v I' J' => Rn S 178 119 [v0, v1, v2, v3, v4, v5, v6, v7, v8, v9] (v.toList ++ st) I' J' Q)) := rCS (As := [.long u0, .long u1, .int a2]) f178_116 rfl rfl rfl rfl (Nat.le_of_ble_eq_true rfl)
theorem x178_119 : Rn S 178 119 [v0, v1, v2, v3, v4, v5, v6, v7, v8, v9] [.long u] I J Q = Q (some (.long u)) I J := rR f178_119 rfl rfl rfl rfl rfl
/-! X6.chance: 179 -/
theorem B179 : zB 179 = cX6_chance := rfl
theorem f179_0 : zft 179 0 = some (.aload_n 0, 1) := fet B179 (by decide +kernel) (Or.inr rfl)
theorem f179_1 : zft 179 1 = some (.invokevirtual 205, 3) := fet B179 (by decide +kernel) (Or.inr rfl)
theorem f179_4 : zft 179 4 = some (.iload_n 1, 1) := fet B179 (by decide +kernel) (Or.inr rfl)
theorem f179_5 : zft 179 5 = some (.i2l, 1) := fet B179 (by decide +kernel) (Or.inr rfl)
theorem f179_6 : zft 179 6 = some (.lconst 0, 1) := fet B179 (by decide +kernel) (Or.inr rfl)
theorem f179_7 : zft 179 7 = some (.ldc2_w 284, 3) := fet B179 (by decide +kernel) (Or.inr rfl)
theorem f179_10 : zft 179 10 = some (.invokestatic 86, 3) := fet B179 (by decide +kernel) (Or.inr rfl)
theorem f179_13 : zft 179 13 = some (.ifCond .eq 28, 3) := fet B179 (by decide +kernel) (Or.inr rfl)
theorem f179_16 : zft 179 16 = some (.aload_n 0, 1) := fet B179 (by decide +kernel) (Or.inr rfl)
theorem f179_17 : zft 179 17 = some (.iload_n 2, 1) := fet B179 (by decide +kernel) (Or.inr rfl)
theorem f179_18 : zft 179 18 = some (.invokevirtual 155, 3) := fet B179 (by decide +kernel) (Or.inr rfl)
theorem f179_21 : zft 179 21 = some (.ifCond .eq 20, 3) := fet B179 (by decide +kernel) (Or.inr rfl)
theorem f179_24 : zft 179 24 = some (.iload_n 3, 1) := fet B179 (by decide +kernel) (Or.inr rfl)
theorem f179_25 : zft 179 25 = some (.invokestatic 164, 3) := fet B179 (by decide +kernel) (Or.inr rfl)
theorem f179_28 : zft 179 28 = some (.ifCond .eq 13, 3) := fet B179 (by decide +kernel) (Or.inr rfl)
theorem f179_31 : zft 179 31 = some (.aload_n 0, 1) := fet B179 (by decide +kernel) (Or.inr rfl)
theorem f179_32 : zft 179 32 = some (.iload_n 1, 1) := fet B179 (by decide +kernel) (Or.inr rfl)
theorem f179_33 : zft 179 33 = some (.iload_n 2, 1) := fet B179 (by decide +kernel) (Or.inr rfl)
theorem f179_34 : zft 179 34 = some (.iload_n 3, 1) := fet B179 (by decide +kernel) (Or.inr rfl)
theorem f179_35 : zft 179 35 = some (.invokevirtual 286, 3) := fet B179 (by decide +kernel) (Or.inr rfl)
theorem f179_38 : zft 179 38 = some (.goto 8, 3) := fet B179 (by decide +kernel) (Or.inr rfl)
theorem f179_41 : zft 179 41 = some (.bipush (-2), 2) := fet B179 (by decide +kernel) (Or.inr rfl)
theorem f179_43 : zft 179 43 = some (.invokestatic 290, 3) := fet B179 (by decide +kernel) (Or.inr rfl)
theorem f179_46 : zft 179 46 = some (.lreturn, 1) := fet B179 (by decide +kernel) (Or.inr rfl)
theorem x179_0 : Rn S 179 0 [.ref q, v1, v2, v3] st I J Q = Rn S 179 1 [.ref q, v1, v2, v3] (.ref q :: st) I J Q := rL f179_0 rfl rfl
theorem x179_1 : Rn S 179 1 [v0, v1, v2, v3] (.ref q :: st) I J Q = ((zcls S q = 6 ∧ zcs st ≤ 8) ∧ Rn S 141 0 [.ref q] [] I J (fun v I' J' => Rn S 179 4 [v0, v1, v2, v3] (v.toList ++ st) I' J' Q)) := rCV (As := []) f179_1 rfl rfl rfl rfl (Nat.le_of_ble_eq_true rfl)
theorem x179_4 : Rn S 179 4 [v0, .int a, v2, v3] st I J Q = Rn S 179 5 [v0, .int a, v2, v3] (.int a :: st) I J Q := rL f179_4 rfl rfl
theorem x179_5 : Rn S 179 5 [v0, v1, v2, v3] (.int a :: st) I J Q = Rn S 179 6 [v0, v1, v2, v3] (.long a.toInt64 :: st) I J Q := rS f179_5 rfl
theorem x179_6 : Rn S 179 6 [v0, v1, v2, v3] st I J Q = Rn S 179 7 [v0, v1, v2, v3] (.long 0 :: st) I J Q := rS f179_6 rfl
theorem x179_7 : Rn S 179 7 [v0, v1, v2, v3] st I J Q = Rn S 179 10 [v0, v1, v2, v3] (.long 16 :: st) I J Q := rS f179_7 rfl
theorem x179_10 : Rn S 179 10 [v0, v1, v2, v3] (.long u2 :: .long u1 :: .long u0 :: st) I J Q = (zcs st ≤ 8 ∧ Rn S 96 0 [.long u0, .null, .long u1, .null, .long u2, .null] [] I J (fun v I' J' => Rn S 179 13 [v0, v1, v2, v3] (v.toList ++ st) I' J' Q)) := rCS (As := [.long u0, .long u1, .long u2]) f179_10 rfl rfl rfl rfl (Nat.le_of_ble_eq_true rfl)
theorem x179_13 : Rn S 179 13 [v0, v1, v2, v3] (.int a :: st) I J Q = if a = 0 then Rn S 179 41 [v0, v1, v2, v3] st I J Q else Rn S 179 16 [v0, v1, v2, v3] st I J Q := rIeq f179_13 rfl rfl
theorem x179_16 : Rn S 179 16 [.ref q, v1, v2, v3] st I J Q = Rn S 179 17 [.ref q, v1, v2, v3] (.ref q :: st) I J Q := rL f179_16 rfl rfl
theorem x179_17 : Rn S 179 17 [v0, v1, .int a, v3] st I J Q = Rn S 179 18 [v0, v1, .int a, v3] (.int a :: st) I J Q := rL f179_17 rfl rfl
theorem x179_18 : Rn S 179 18 [v0, v1, v2, v3] (.int a0 :: .ref q :: st) I J Q = ((zcls S q = 6 ∧ zcs st ≤ 8) ∧ Rn S 126 0 [.ref q, .int a0] [] I J (fun v I' J' => Rn S 179 21 [v0, v1, v2, v3] (v.toList ++ st) I' J' Q)) := rCV (As := [.int a0]) f179_18 rfl rfl rfl rfl (Nat.le_of_ble_eq_true rfl)
theorem x179_21 : Rn S 179 21 [v0, v1, v2, v3] (.int a :: st) I J Q = if a = 0 then Rn S 179 41 [v0, v1, v2, v3] st I J Q else Rn S 179 24 [v0, v1, v2, v3] st I J Q := rIeq f179_21 rfl rfl
theorem x179_24 : Rn S 179 24 [v0, v1, v2, .int a] st I J Q = Rn S 179 25 [v0, v1, v2, .int a] (.int a :: st) I J Q := rL f179_24 rfl rfl
theorem x179_25 : Rn S 179 25 [v0, v1, v2, v3] (.int a0 :: st) I J Q = (zcs st ≤ 8 ∧ Rn S 98 0 [.int a0] [] I J (fun v I' J' => Rn S 179 28 [v0, v1, v2, v3] (v.toList ++ st) I' J' Q)) := rCS (As := [.int a0]) f179_25 rfl rfl rfl rfl (Nat.le_of_ble_eq_true rfl)
theorem x179_28 : Rn S 179 28 [v0, v1, v2, v3] (.int a :: st) I J Q = if a = 0 then Rn S 179 41 [v0, v1, v2, v3] st I J Q else Rn S 179 31 [v0, v1, v2, v3] st I J Q := rIeq f179_28 rfl rfl
theorem x179_31 : Rn S 179 31 [.ref q, v1, v2, v3] st I J Q = Rn S 179 32 [.ref q, v1, v2, v3] (.ref q :: st) I J Q := rL f179_31 rfl rfl
theorem x179_32 : Rn S 179 32 [v0, .int a, v2, v3] st I J Q = Rn S 179 33 [v0, .int a, v2, v3] (.int a :: st) I J Q := rL f179_32 rfl rfl
theorem x179_33 : Rn S 179 33 [v0, v1, .int a, v3] st I J Q = Rn S 179 34 [v0, v1, .int a, v3] (.int a :: st) I J Q := rL f179_33 rfl rfl
theorem x179_34 : Rn S 179 34 [v0, v1, v2, .int a] st I J Q = Rn S 179 35 [v0, v1, v2, .int a] (.int a :: st) I J Q := rL f179_34 rfl rfl
theorem x179_35 : Rn S 179 35 [v0, v1, v2, v3] (.int a2 :: .int a1 :: .int a0 :: .ref q :: st) I J Q = ((zcls S q = 6 ∧ zcs st ≤ 8) ∧ Rn S 178 0 [.ref q, .int a0, .int a1, .int a2, .null, .null, .null, .null, .null, .null] [] I J (fun v I' J' => Rn S 179 38 [v0, v1, v2, v3] (v.toList ++ st) I' J' Q)) := rCV (As := [.int a0, .int a1, .int a2]) f179_35 rfl rfl rfl rfl (Nat.le_of_ble_eq_true rfl)
theorem x179_38 : Rn S 179 38 [v0, v1, v2, v3] st I J Q = Rn S 179 46 [v0, v1, v2, v3] st I J Q := rB f179_38 rfl rfl rfl
theorem x179_41 : Rn S 179 41 [v0, v1, v2, v3] st I J Q = Rn S 179 43 [v0, v1, v2, v3] (.int (-2) :: st) I J Q := rS f179_41 rfl
theorem x179_43 : Rn S 179 43 [v0, v1, v2, v3] (.int a0 :: st) I J Q = (zcs st ≤ 8 ∧ Rn S 97 0 [.int a0] [] I J (fun v I' J' => Rn S 179 46 [v0, v1, v2, v3] (v.toList ++ st) I' J' Q)) := rCS (As := [.int a0]) f179_43 rfl rfl rfl rfl (Nat.le_of_ble_eq_true rfl)
theorem x179_46 : Rn S 179 46 [v0, v1, v2, v3] [.long u] I J Q = Q (some (.long u)) I J := rR f179_46 rfl rfl rfl rfl rfl
/-! X6.lot: 180 -/
theorem B180 : zB 180 = cX6_lot := rfl
theorem f180_0 : zft 180 0 = some (.aload_n 0, 1) := fet B180 (by decide +kernel) (Or.inr rfl)
theorem f180_1 : zft 180 1 = some (.ldc_w 294, 3) := fet B180 (by decide +kernel) (Or.inr rfl)
theorem f180_4 : zft 180 4 = some (.aload_n 0, 1) := fet B180 (by decide +kernel) (Or.inr rfl)
theorem f180_5 : zft 180 5 = some (.getfield 295, 3) := fet B180 (by decide +kernel) (Or.inr rfl)
theorem f180_8 : zft 180 8 = some (.imul, 1) := fet B180 (by decide +kernel) (Or.inr rfl)
theorem f180_9 : zft 180 9 = some (.sipush 12345, 3) := fet B180 (by decide +kernel) (Or.inr rfl)
theorem f180_12 : zft 180 12 = some (.iadd, 1) := fet B180 (by decide +kernel) (Or.inr rfl)
theorem f180_13 : zft 180 13 = some (.putfield 295, 3) := fet B180 (by decide +kernel) (Or.inr rfl)
theorem f180_16 : zft 180 16 = some (.aload_n 0, 1) := fet B180 (by decide +kernel) (Or.inr rfl)
theorem f180_17 : zft 180 17 = some (.getfield 295, 3) := fet B180 (by decide +kernel) (Or.inr rfl)
theorem f180_20 : zft 180 20 = some (.bipush 16, 2) := fet B180 (by decide +kernel) (Or.inr rfl)
theorem f180_22 : zft 180 22 = some (.iushr, 1) := fet B180 (by decide +kernel) (Or.inr rfl)
theorem f180_23 : zft 180 23 = some (.iload_n 1, 1) := fet B180 (by decide +kernel) (Or.inr rfl)
theorem f180_24 : zft 180 24 = some (.irem, 1) := fet B180 (by decide +kernel) (Or.inr rfl)
theorem f180_25 : zft 180 25 = some (.ireturn, 1) := fet B180 (by decide +kernel) (Or.inr rfl)
theorem x180_0 : Rn S 180 0 [.ref q, v1] st I J Q = Rn S 180 1 [.ref q, v1] (.ref q :: st) I J Q := rL f180_0 rfl rfl
theorem x180_1 : Rn S 180 1 [v0, v1] st I J Q = Rn S 180 4 [v0, v1] (.int 1103515245 :: st) I J Q := rS f180_1 rfl
theorem x180_4 : Rn S 180 4 [.ref q, v1] st I J Q = Rn S 180 5 [.ref q, v1] (.ref q :: st) I J Q := rL f180_4 rfl rfl
theorem x180_5_65 : Rn (zG xl) 180 5 [v0, v1] (.ref 65 :: st) I J Q = Rn (zG xl) 180 8 [v0, v1] (.int (I 65 31) :: st) I J Q := (rGf f180_5 rfl).trans (tr_and rfl)
theorem x180_8 : Rn S 180 8 [v0, v1] (.int b :: .int a :: st) I J Q = Rn S 180 9 [v0, v1] (.int (a * b) :: st) I J Q := rS f180_8 rfl
theorem x180_9 : Rn S 180 9 [v0, v1] st I J Q = Rn S 180 12 [v0, v1] (.int 12345 :: st) I J Q := rS f180_9 rfl
theorem x180_12 : Rn S 180 12 [v0, v1] (.int b :: .int a :: st) I J Q = Rn S 180 13 [v0, v1] (.int (a + b) :: st) I J Q := rS f180_12 rfl
theorem x180_13_65 : Rn (zG xl) 180 13 [v0, v1] (.int a :: .ref 65 :: st) I J Q = Rn (zG xl) 180 16 [v0, v1] st (zr I 65 (upd (I 65) 31 a)) J Q := (rPf f180_13 rfl).trans (tr_pf rfl rfl rfl)
theorem x180_16 : Rn S 180 16 [.ref q, v1] st I J Q = Rn S 180 17 [.ref q, v1] (.ref q :: st) I J Q := rL f180_16 rfl rfl
theorem x180_17_65 : Rn (zG xl) 180 17 [v0, v1] (.ref 65 :: st) I J Q = Rn (zG xl) 180 20 [v0, v1] (.int (I 65 31) :: st) I J Q := (rGf f180_17 rfl).trans (tr_and rfl)
theorem x180_20 : Rn S 180 20 [v0, v1] st I J Q = Rn S 180 22 [v0, v1] (.int 16 :: st) I J Q := rS f180_20 rfl
theorem x180_22 : Rn S 180 22 [v0, v1] (.int b :: .int a :: st) I J Q = Rn S 180 23 [v0, v1] (.int ((a.toUInt32 >>> (b.toUInt32 &&& Int32.toUInt32 31)).toInt32) :: st) I J Q := rS f180_22 rfl
theorem x180_23 : Rn S 180 23 [v0, .int a] st I J Q = Rn S 180 24 [v0, .int a] (.int a :: st) I J Q := rL f180_23 rfl rfl
theorem x180_24 : Rn S 180 24 [v0, v1] (.int b :: .int a :: st) I J Q = (¬ b = 0 ∧ Rn S 180 25 [v0, v1] (.int (a - a / b * b) :: st) I J Q) := rRi f180_24
theorem x180_25 : Rn S 180 25 [v0, v1] [.int a] I J Q = Q (some (.int a)) I J := rR f180_25 rfl rfl rfl rfl rfl
/-! X6.daysOf: 181 -/
theorem B181 : zB 181 = cX6_daysOf := rfl
theorem f181_0 : zft 181 0 = some (.aload_n 0, 1) := fet B181 (by decide +kernel) (Or.inr rfl)
theorem f181_1 : zft 181 1 = some (.iload_n 1, 1) := fet B181 (by decide +kernel) (Or.inr rfl)
theorem f181_2 : zft 181 2 = some (.putfield 295, 3) := fet B181 (by decide +kernel) (Or.inr rfl)
theorem f181_5 : zft 181 5 = some (.aload_n 0, 1) := fet B181 (by decide +kernel) (Or.inr rfl)
theorem f181_6 : zft 181 6 = some (.iconst 0, 1) := fet B181 (by decide +kernel) (Or.inr rfl)
theorem f181_7 : zft 181 7 = some (.putfield 134, 3) := fet B181 (by decide +kernel) (Or.inr rfl)
theorem f181_10 : zft 181 10 = some (.iconst 0, 1) := fet B181 (by decide +kernel) (Or.inr rfl)
theorem f181_11 : zft 181 11 = some (.istore 4, 2) := fet B181 (by decide +kernel) (Or.inr rfl)
theorem f181_13 : zft 181 13 = some (.iload 4, 2) := fet B181 (by decide +kernel) (Or.inr rfl)
theorem f181_15 : zft 181 15 = some (.iload_n 2, 1) := fet B181 (by decide +kernel) (Or.inr rfl)
theorem f181_16 : zft 181 16 = some (.if_icmp .ge 69, 3) := fet B181 (by decide +kernel) (Or.inr rfl)
theorem f181_19 : zft 181 19 = some (.aload_n 0, 1) := fet B181 (by decide +kernel) (Or.inr rfl)
theorem f181_20 : zft 181 20 = some (.getfield 128, 3) := fet B181 (by decide +kernel) (Or.inr rfl)
theorem f181_23 : zft 181 23 = some (.ifCond .le 62, 3) := fet B181 (by decide +kernel) (Or.inr rfl)
theorem f181_26 : zft 181 26 = some (.aload_n 0, 1) := fet B181 (by decide +kernel) (Or.inr rfl)
theorem f181_27 : zft 181 27 = some (.getfield 122, 3) := fet B181 (by decide +kernel) (Or.inr rfl)
theorem f181_30 : zft 181 30 = some (.ifCond .le 55, 3) := fet B181 (by decide +kernel) (Or.inr rfl)
theorem f181_33 : zft 181 33 = some (.aload_n 0, 1) := fet B181 (by decide +kernel) (Or.inr rfl)
theorem f181_34 : zft 181 34 = some (.getfield 34, 3) := fet B181 (by decide +kernel) (Or.inr rfl)
theorem f181_37 : zft 181 37 = some (.iconst 2, 1) := fet B181 (by decide +kernel) (Or.inr rfl)
theorem f181_38 : zft 181 38 = some (.iload 4, 2) := fet B181 (by decide +kernel) (Or.inr rfl)
theorem f181_40 : zft 181 40 = some (.imul, 1) := fet B181 (by decide +kernel) (Or.inr rfl)
theorem f181_41 : zft 181 41 = some (.aload_n 0, 1) := fet B181 (by decide +kernel) (Or.inr rfl)
theorem f181_42 : zft 181 42 = some (.aload_n 0, 1) := fet B181 (by decide +kernel) (Or.inr rfl)
theorem f181_43 : zft 181 43 = some (.getfield 128, 3) := fet B181 (by decide +kernel) (Or.inr rfl)
theorem f181_46 : zft 181 46 = some (.invokevirtual 298, 3) := fet B181 (by decide +kernel) (Or.inr rfl)
theorem f181_49 : zft 181 49 = some (.iastore, 1) := fet B181 (by decide +kernel) (Or.inr rfl)
theorem f181_50 : zft 181 50 = some (.aload_n 0, 1) := fet B181 (by decide +kernel) (Or.inr rfl)
theorem f181_51 : zft 181 51 = some (.getfield 34, 3) := fet B181 (by decide +kernel) (Or.inr rfl)
theorem f181_54 : zft 181 54 = some (.iconst 2, 1) := fet B181 (by decide +kernel) (Or.inr rfl)
theorem f181_55 : zft 181 55 = some (.iload 4, 2) := fet B181 (by decide +kernel) (Or.inr rfl)
theorem f181_57 : zft 181 57 = some (.imul, 1) := fet B181 (by decide +kernel) (Or.inr rfl)
theorem f181_58 : zft 181 58 = some (.iconst 1, 1) := fet B181 (by decide +kernel) (Or.inr rfl)
theorem f181_59 : zft 181 59 = some (.iadd, 1) := fet B181 (by decide +kernel) (Or.inr rfl)
theorem f181_60 : zft 181 60 = some (.aload_n 0, 1) := fet B181 (by decide +kernel) (Or.inr rfl)
theorem f181_61 : zft 181 61 = some (.aload_n 0, 1) := fet B181 (by decide +kernel) (Or.inr rfl)
theorem f181_62 : zft 181 62 = some (.getfield 122, 3) := fet B181 (by decide +kernel) (Or.inr rfl)
theorem f181_65 : zft 181 65 = some (.invokevirtual 298, 3) := fet B181 (by decide +kernel) (Or.inr rfl)
theorem f181_68 : zft 181 68 = some (.iastore, 1) := fet B181 (by decide +kernel) (Or.inr rfl)
theorem f181_69 : zft 181 69 = some (.aload_n 0, 1) := fet B181 (by decide +kernel) (Or.inr rfl)
theorem f181_70 : zft 181 70 = some (.dup, 1) := fet B181 (by decide +kernel) (Or.inr rfl)
theorem f181_71 : zft 181 71 = some (.getfield 134, 3) := fet B181 (by decide +kernel) (Or.inr rfl)
theorem f181_74 : zft 181 74 = some (.iconst 1, 1) := fet B181 (by decide +kernel) (Or.inr rfl)
theorem f181_75 : zft 181 75 = some (.iadd, 1) := fet B181 (by decide +kernel) (Or.inr rfl)
theorem f181_76 : zft 181 76 = some (.putfield 134, 3) := fet B181 (by decide +kernel) (Or.inr rfl)
theorem f181_79 : zft 181 79 = some (.iinc 4 1, 3) := fet B181 (by decide +kernel) (Or.inr rfl)
theorem f181_82 : zft 181 82 = some (.goto (-69), 3) := fet B181 (by decide +kernel) (Or.inr rfl)
theorem f181_85 : zft 181 85 = some (.aload_n 0, 1) := fet B181 (by decide +kernel) (Or.inr rfl)
theorem f181_86 : zft 181 86 = some (.invokevirtual 202, 3) := fet B181 (by decide +kernel) (Or.inr rfl)
theorem f181_89 : zft 181 89 = some (.aload_n 0, 1) := fet B181 (by decide +kernel) (Or.inr rfl)
theorem f181_90 : zft 181 90 = some (.invokevirtual 147, 3) := fet B181 (by decide +kernel) (Or.inr rfl)
theorem f181_93 : zft 181 93 = some (.pop, 1) := fet B181 (by decide +kernel) (Or.inr rfl)
theorem f181_94 : zft 181 94 = some (.iload_n 3, 1) := fet B181 (by decide +kernel) (Or.inr rfl)
theorem f181_95 : zft 181 95 = some (.ifCond .ne 10, 3) := fet B181 (by decide +kernel) (Or.inr rfl)
theorem f181_98 : zft 181 98 = some (.aload_n 0, 1) := fet B181 (by decide +kernel) (Or.inr rfl)
theorem f181_99 : zft 181 99 = some (.invokevirtual 223, 3) := fet B181 (by decide +kernel) (Or.inr rfl)
theorem f181_102 : zft 181 102 = some (.goto 11, 3) := fet B181 (by decide +kernel) (Or.inr rfl)
theorem f181_105 : zft 181 105 = some (.aload_n 0, 1) := fet B181 (by decide +kernel) (Or.inr rfl)
theorem f181_106 : zft 181 106 = some (.iconst 0, 1) := fet B181 (by decide +kernel) (Or.inr rfl)
theorem f181_107 : zft 181 107 = some (.invokevirtual 229, 3) := fet B181 (by decide +kernel) (Or.inr rfl)
theorem f181_110 : zft 181 110 = some (.invokestatic 220, 3) := fet B181 (by decide +kernel) (Or.inr rfl)
theorem f181_113 : zft 181 113 = some (.ireturn, 1) := fet B181 (by decide +kernel) (Or.inr rfl)
theorem x181_0 : Rn S 181 0 [.ref q, v1, v2, v3, v4] st I J Q = Rn S 181 1 [.ref q, v1, v2, v3, v4] (.ref q :: st) I J Q := rL f181_0 rfl rfl
theorem x181_1 : Rn S 181 1 [v0, .int a, v2, v3, v4] st I J Q = Rn S 181 2 [v0, .int a, v2, v3, v4] (.int a :: st) I J Q := rL f181_1 rfl rfl
theorem x181_2_65 : Rn (zG xl) 181 2 [v0, v1, v2, v3, v4] (.int a :: .ref 65 :: st) I J Q = Rn (zG xl) 181 5 [v0, v1, v2, v3, v4] st (zr I 65 (upd (I 65) 31 a)) J Q := (rPf f181_2 rfl).trans (tr_pf rfl rfl rfl)
theorem x181_5 : Rn S 181 5 [.ref q, v1, v2, v3, v4] st I J Q = Rn S 181 6 [.ref q, v1, v2, v3, v4] (.ref q :: st) I J Q := rL f181_5 rfl rfl
theorem x181_6 : Rn S 181 6 [v0, v1, v2, v3, v4] st I J Q = Rn S 181 7 [v0, v1, v2, v3, v4] (.int 0 :: st) I J Q := rS f181_6 rfl
theorem x181_7_65 : Rn (zG xl) 181 7 [v0, v1, v2, v3, v4] (.int a :: .ref 65 :: st) I J Q = Rn (zG xl) 181 10 [v0, v1, v2, v3, v4] st (zr I 65 (upd (I 65) 11 a)) J Q := (rPf f181_7 rfl).trans (tr_pf rfl rfl rfl)
theorem x181_10 : Rn S 181 10 [v0, v1, v2, v3, v4] st I J Q = Rn S 181 11 [v0, v1, v2, v3, v4] (.int 0 :: st) I J Q := rS f181_10 rfl
theorem x181_11 : Rn S 181 11 [v0, v1, v2, v3, v4] (.int a :: st) I J Q = Rn S 181 13 [v0, v1, v2, zkl v3, .int a] st I J Q := rL f181_11 rfl rfl
theorem h181_13 : Rn S 181 13 [v0, v1, v2, v3, .int a] st I J Q = Rn S 181 15 [v0, v1, v2, v3, .int a] (.int a :: st) I J Q := rL f181_13 rfl rfl
theorem x181_15 : Rn S 181 15 [v0, v1, .int a, v3, v4] st I J Q = Rn S 181 16 [v0, v1, .int a, v3, v4] (.int a :: st) I J Q := rL f181_15 rfl rfl
theorem x181_16 : Rn S 181 16 [v0, v1, v2, v3, v4] (.int b :: .int a :: st) I J Q = if a < b then Rn S 181 19 [v0, v1, v2, v3, v4] st I J Q else Rn S 181 85 [v0, v1, v2, v3, v4] st I J Q := rCge f181_16 rfl rfl
theorem x181_19 : Rn S 181 19 [.ref q, v1, v2, v3, v4] st I J Q = Rn S 181 20 [.ref q, v1, v2, v3, v4] (.ref q :: st) I J Q := rL f181_19 rfl rfl
theorem x181_20_65 : Rn (zG xl) 181 20 [v0, v1, v2, v3, v4] (.ref 65 :: st) I J Q = Rn (zG xl) 181 23 [v0, v1, v2, v3, v4] (.int (I 65 9) :: st) I J Q := (rGf f181_20 rfl).trans (tr_and rfl)
theorem x181_23 : Rn S 181 23 [v0, v1, v2, v3, v4] (.int a :: st) I J Q = if 0 < a then Rn S 181 26 [v0, v1, v2, v3, v4] st I J Q else Rn S 181 85 [v0, v1, v2, v3, v4] st I J Q := rIle f181_23 rfl rfl
theorem x181_26 : Rn S 181 26 [.ref q, v1, v2, v3, v4] st I J Q = Rn S 181 27 [.ref q, v1, v2, v3, v4] (.ref q :: st) I J Q := rL f181_26 rfl rfl
theorem x181_27_65 : Rn (zG xl) 181 27 [v0, v1, v2, v3, v4] (.ref 65 :: st) I J Q = Rn (zG xl) 181 30 [v0, v1, v2, v3, v4] (.int (I 65 7) :: st) I J Q := (rGf f181_27 rfl).trans (tr_and rfl)
theorem x181_30 : Rn S 181 30 [v0, v1, v2, v3, v4] (.int a :: st) I J Q = if 0 < a then Rn S 181 33 [v0, v1, v2, v3, v4] st I J Q else Rn S 181 85 [v0, v1, v2, v3, v4] st I J Q := rIle f181_30 rfl rfl
theorem x181_33 : Rn S 181 33 [.ref q, v1, v2, v3, v4] st I J Q = Rn S 181 34 [.ref q, v1, v2, v3, v4] (.ref q :: st) I J Q := rL f181_33 rfl rfl
theorem x181_34_65 : Rn (zG xl) 181 34 [v0, v1, v2, v3, v4] (.ref 65 :: st) I J Q = Rn (zG xl) 181 37 [v0, v1, v2, v3, v4] (.ref 74 :: st) I J Q := (rGf f181_34 rfl).trans (tr_and rfl)
theorem x181_37 : Rn S 181 37 [v0, v1, v2, v3, v4] st I J Q = Rn S 181 38 [v0, v1, v2, v3, v4] (.int 2 :: st) I J Q := rS f181_37 rfl
theorem x181_38 : Rn S 181 38 [v0, v1, v2, v3, .int a] st I J Q = Rn S 181 40 [v0, v1, v2, v3, .int a] (.int a :: st) I J Q := rL f181_38 rfl rfl
theorem x181_40 : Rn S 181 40 [v0, v1, v2, v3, v4] (.int b :: .int a :: st) I J Q = Rn S 181 41 [v0, v1, v2, v3, v4] (.int (a * b) :: st) I J Q := rS f181_40 rfl
theorem x181_41 : Rn S 181 41 [.ref q, v1, v2, v3, v4] st I J Q = Rn S 181 42 [.ref q, v1, v2, v3, v4] (.ref q :: st) I J Q := rL f181_41 rfl rfl
theorem x181_42 : Rn S 181 42 [.ref q, v1, v2, v3, v4] st I J Q = Rn S 181 43 [.ref q, v1, v2, v3, v4] (.ref q :: st) I J Q := rL f181_42 rfl rfl
theorem x181_43_65 : Rn (zG xl) 181 43 [v0, v1, v2, v3, v4] (.ref 65 :: st) I J Q = Rn (zG xl) 181 46 [v0, v1, v2, v3, v4] (.int (I 65 9) :: st) I J Q := (rGf f181_43 rfl).trans (tr_and rfl)
theorem x181_46 : Rn S 181 46 [v0, v1, v2, v3, v4] (.int a0 :: .ref q :: st) I J Q = ((zcls S q = 6 ∧ zcs st ≤ 8) ∧ Rn S 180 0 [.ref q, .int a0] [] I J (fun v I' J' => Rn S 181 49 [v0, v1, v2, v3, v4] (v.toList ++ st) I' J' Q)) := rCV (As := [.int a0]) f181_46 rfl rfl rfl rfl (Nat.le_of_ble_eq_true rfl)
theorem x181_49 : Rn S 181 49 [v0, v1, v2, v3, v4] (.int b :: .int a :: .ref q :: st) I J Q = (zas S q a ∧ Rn S 181 50 [v0, v1, v2, v3, v4] st (zr I q (upd (I q) a.toNatClampNeg b)) J Q) := rIas f181_49
theorem x181_50 : Rn S 181 50 [.ref q, v1, v2, v3, v4] st I J Q = Rn S 181 51 [.ref q, v1, v2, v3, v4] (.ref q :: st) I J Q := rL f181_50 rfl rfl
theorem x181_51_65 : Rn (zG xl) 181 51 [v0, v1, v2, v3, v4] (.ref 65 :: st) I J Q = Rn (zG xl) 181 54 [v0, v1, v2, v3, v4] (.ref 74 :: st) I J Q := (rGf f181_51 rfl).trans (tr_and rfl)
theorem x181_54 : Rn S 181 54 [v0, v1, v2, v3, v4] st I J Q = Rn S 181 55 [v0, v1, v2, v3, v4] (.int 2 :: st) I J Q := rS f181_54 rfl
theorem x181_55 : Rn S 181 55 [v0, v1, v2, v3, .int a] st I J Q = Rn S 181 57 [v0, v1, v2, v3, .int a] (.int a :: st) I J Q := rL f181_55 rfl rfl
theorem x181_57 : Rn S 181 57 [v0, v1, v2, v3, v4] (.int b :: .int a :: st) I J Q = Rn S 181 58 [v0, v1, v2, v3, v4] (.int (a * b) :: st) I J Q := rS f181_57 rfl
theorem x181_58 : Rn S 181 58 [v0, v1, v2, v3, v4] st I J Q = Rn S 181 59 [v0, v1, v2, v3, v4] (.int 1 :: st) I J Q := rS f181_58 rfl
theorem x181_59 : Rn S 181 59 [v0, v1, v2, v3, v4] (.int b :: .int a :: st) I J Q = Rn S 181 60 [v0, v1, v2, v3, v4] (.int (a + b) :: st) I J Q := rS f181_59 rfl
theorem x181_60 : Rn S 181 60 [.ref q, v1, v2, v3, v4] st I J Q = Rn S 181 61 [.ref q, v1, v2, v3, v4] (.ref q :: st) I J Q := rL f181_60 rfl rfl
theorem x181_61 : Rn S 181 61 [.ref q, v1, v2, v3, v4] st I J Q = Rn S 181 62 [.ref q, v1, v2, v3, v4] (.ref q :: st) I J Q := rL f181_61 rfl rfl
theorem x181_62_65 : Rn (zG xl) 181 62 [v0, v1, v2, v3, v4] (.ref 65 :: st) I J Q = Rn (zG xl) 181 65 [v0, v1, v2, v3, v4] (.int (I 65 7) :: st) I J Q := (rGf f181_62 rfl).trans (tr_and rfl)
theorem x181_65 : Rn S 181 65 [v0, v1, v2, v3, v4] (.int a0 :: .ref q :: st) I J Q = ((zcls S q = 6 ∧ zcs st ≤ 8) ∧ Rn S 180 0 [.ref q, .int a0] [] I J (fun v I' J' => Rn S 181 68 [v0, v1, v2, v3, v4] (v.toList ++ st) I' J' Q)) := rCV (As := [.int a0]) f181_65 rfl rfl rfl rfl (Nat.le_of_ble_eq_true rfl)
theorem x181_68 : Rn S 181 68 [v0, v1, v2, v3, v4] (.int b :: .int a :: .ref q :: st) I J Q = (zas S q a ∧ Rn S 181 69 [v0, v1, v2, v3, v4] st (zr I q (upd (I q) a.toNatClampNeg b)) J Q) := rIas f181_68
theorem x181_69 : Rn S 181 69 [.ref q, v1, v2, v3, v4] st I J Q = Rn S 181 70 [.ref q, v1, v2, v3, v4] (.ref q :: st) I J Q := rL f181_69 rfl rfl
theorem x181_70i : Rn S 181 70 [v0, v1, v2, v3, v4] (.int a :: st) I J Q = Rn S 181 71 [v0, v1, v2, v3, v4] (.int a :: .int a :: st) I J Q := rS f181_70 rfl
theorem x181_70r : Rn S 181 70 [v0, v1, v2, v3, v4] (.ref q :: st) I J Q = Rn S 181 71 [v0, v1, v2, v3, v4] (.ref q :: .ref q :: st) I J Q := rS f181_70 rfl
theorem x181_71_65 : Rn (zG xl) 181 71 [v0, v1, v2, v3, v4] (.ref 65 :: st) I J Q = Rn (zG xl) 181 74 [v0, v1, v2, v3, v4] (.int (I 65 11) :: st) I J Q := (rGf f181_71 rfl).trans (tr_and rfl)
theorem x181_74 : Rn S 181 74 [v0, v1, v2, v3, v4] st I J Q = Rn S 181 75 [v0, v1, v2, v3, v4] (.int 1 :: st) I J Q := rS f181_74 rfl
theorem x181_75 : Rn S 181 75 [v0, v1, v2, v3, v4] (.int b :: .int a :: st) I J Q = Rn S 181 76 [v0, v1, v2, v3, v4] (.int (a + b) :: st) I J Q := rS f181_75 rfl
theorem x181_76_65 : Rn (zG xl) 181 76 [v0, v1, v2, v3, v4] (.int a :: .ref 65 :: st) I J Q = Rn (zG xl) 181 79 [v0, v1, v2, v3, v4] st (zr I 65 (upd (I 65) 11 a)) J Q := (rPf f181_76 rfl).trans (tr_pf rfl rfl rfl)
theorem x181_79 : Rn S 181 79 [v0, v1, v2, v3, .int a] st I J Q = Rn S 181 82 [v0, v1, v2, zkl v3, .int (a + 1)] st I J Q := rL f181_79 rfl rfl
theorem x181_82 : Rn S 181 82 [v0, v1, v2, v3, v4] st I J Q = Rn S 181 13 [v0, v1, v2, v3, v4] st I J Q := rB f181_82 rfl rfl rfl
theorem x181_85 : Rn S 181 85 [.ref q, v1, v2, v3, v4] st I J Q = Rn S 181 86 [.ref q, v1, v2, v3, v4] (.ref q :: st) I J Q := rL f181_85 rfl rfl
theorem x181_86 : Rn S 181 86 [v0, v1, v2, v3, v4] (.ref q :: st) I J Q = ((zcls S q = 6 ∧ zcs st ≤ 8) ∧ Rn S 140 0 [.ref q, .null] [] I J (fun v I' J' => Rn S 181 89 [v0, v1, v2, v3, v4] (v.toList ++ st) I' J' Q)) := rCV (As := []) f181_86 rfl rfl rfl rfl (Nat.le_of_ble_eq_true rfl)
theorem x181_89 : Rn S 181 89 [.ref q, v1, v2, v3, v4] st I J Q = Rn S 181 90 [.ref q, v1, v2, v3, v4] (.ref q :: st) I J Q := rL f181_89 rfl rfl
theorem x181_90 : Rn S 181 90 [v0, v1, v2, v3, v4] (.ref q :: st) I J Q = ((zcls S q = 6 ∧ zcs st ≤ 8) ∧ Rn S 123 0 [.ref q, .null, .null, .null, .null] [] I J (fun v I' J' => Rn S 181 93 [v0, v1, v2, v3, v4] (v.toList ++ st) I' J' Q)) := rCV (As := []) f181_90 rfl rfl rfl rfl (Nat.le_of_ble_eq_true rfl)
theorem x181_93i : Rn S 181 93 [v0, v1, v2, v3, v4] (.int a :: st) I J Q = Rn S 181 94 [v0, v1, v2, v3, v4] st I J Q := rS f181_93 rfl
theorem x181_93r : Rn S 181 93 [v0, v1, v2, v3, v4] (.ref q :: st) I J Q = Rn S 181 94 [v0, v1, v2, v3, v4] st I J Q := rS f181_93 rfl
theorem x181_94 : Rn S 181 94 [v0, v1, v2, .int a, v4] st I J Q = Rn S 181 95 [v0, v1, v2, .int a, v4] (.int a :: st) I J Q := rL f181_94 rfl rfl
theorem x181_95 : Rn S 181 95 [v0, v1, v2, v3, v4] (.int a :: st) I J Q = if a = 0 then Rn S 181 98 [v0, v1, v2, v3, v4] st I J Q else Rn S 181 105 [v0, v1, v2, v3, v4] st I J Q := rIne f181_95 rfl rfl
theorem x181_98 : Rn S 181 98 [.ref q, v1, v2, v3, v4] st I J Q = Rn S 181 99 [.ref q, v1, v2, v3, v4] (.ref q :: st) I J Q := rL f181_98 rfl rfl
theorem x181_99 : Rn S 181 99 [v0, v1, v2, v3, v4] (.ref q :: st) I J Q = ((zcls S q = 6 ∧ zcs st ≤ 8) ∧ Rn S 150 0 [.ref q, .null, .null] [] I J (fun v I' J' => Rn S 181 102 [v0, v1, v2, v3, v4] (v.toList ++ st) I' J' Q)) := rCV (As := []) f181_99 rfl rfl rfl rfl (Nat.le_of_ble_eq_true rfl)
theorem x181_102 : Rn S 181 102 [v0, v1, v2, v3, v4] st I J Q = Rn S 181 113 [v0, v1, v2, v3, v4] st I J Q := rB f181_102 rfl rfl rfl
theorem x181_105 : Rn S 181 105 [.ref q, v1, v2, v3, v4] st I J Q = Rn S 181 106 [.ref q, v1, v2, v3, v4] (.ref q :: st) I J Q := rL f181_105 rfl rfl
theorem x181_106 : Rn S 181 106 [v0, v1, v2, v3, v4] st I J Q = Rn S 181 107 [v0, v1, v2, v3, v4] (.int 0 :: st) I J Q := rS f181_106 rfl
theorem x181_107 : Rn S 181 107 [v0, v1, v2, v3, v4] (.int a0 :: .ref q :: st) I J Q = ((zcls S q = 6 ∧ zcs st ≤ 8) ∧ Rn S 154 0 [.ref q, .int a0, .null, .null, .null] [] I J (fun v I' J' => Rn S 181 110 [v0, v1, v2, v3, v4] (v.toList ++ st) I' J' Q)) := rCV (As := [.int a0]) f181_107 rfl rfl rfl rfl (Nat.le_of_ble_eq_true rfl)
theorem x181_110 : Rn S 181 110 [v0, v1, v2, v3, v4] (.int a0 :: st) I J Q = (zcs st ≤ 8 ∧ Rn S 100 0 [.int a0, .null, .null] [] I J (fun v I' J' => Rn S 181 113 [v0, v1, v2, v3, v4] (v.toList ++ st) I' J' Q)) := rCS (As := [.int a0]) f181_110 rfl rfl rfl rfl (Nat.le_of_ble_eq_true rfl)
theorem x181_113 : Rn S 181 113 [v0, v1, v2, v3, v4] [.int a] I J Q = Q (some (.int a)) I J := rR f181_113 rfl rfl rfl rfl rfl
/-! X6.days: 182 -/
theorem B182 : zB 182 = cX6_days := rfl
theorem f182_0 : zft 182 0 = some (.aload_n 0, 1) := fet B182 (by decide +kernel) (Or.inr rfl)
theorem f182_1 : zft 182 1 = some (.invokevirtual 205, 3) := fet B182 (by decide +kernel) (Or.inr rfl)
theorem f182_4 : zft 182 4 = some (.iload_n 2, 1) := fet B182 (by decide +kernel) (Or.inr rfl)
theorem f182_5 : zft 182 5 = some (.i2l, 1) := fet B182 (by decide +kernel) (Or.inr rfl)
theorem f182_6 : zft 182 6 = some (.lconst 0, 1) := fet B182 (by decide +kernel) (Or.inr rfl)
theorem f182_7 : zft 182 7 = some (.ldc2_w 284, 3) := fet B182 (by decide +kernel) (Or.inr rfl)
theorem f182_10 : zft 182 10 = some (.invokestatic 86, 3) := fet B182 (by decide +kernel) (Or.inr rfl)
theorem f182_13 : zft 182 13 = some (.ifCond .eq 20, 3) := fet B182 (by decide +kernel) (Or.inr rfl)
theorem f182_16 : zft 182 16 = some (.iload_n 3, 1) := fet B182 (by decide +kernel) (Or.inr rfl)
theorem f182_17 : zft 182 17 = some (.invokestatic 164, 3) := fet B182 (by decide +kernel) (Or.inr rfl)
theorem f182_20 : zft 182 20 = some (.ifCond .eq 13, 3) := fet B182 (by decide +kernel) (Or.inr rfl)
theorem f182_23 : zft 182 23 = some (.aload_n 0, 1) := fet B182 (by decide +kernel) (Or.inr rfl)
theorem f182_24 : zft 182 24 = some (.iload_n 1, 1) := fet B182 (by decide +kernel) (Or.inr rfl)
theorem f182_25 : zft 182 25 = some (.iload_n 2, 1) := fet B182 (by decide +kernel) (Or.inr rfl)
theorem f182_26 : zft 182 26 = some (.iload_n 3, 1) := fet B182 (by decide +kernel) (Or.inr rfl)
theorem f182_27 : zft 182 27 = some (.invokevirtual 301, 3) := fet B182 (by decide +kernel) (Or.inr rfl)
theorem f182_30 : zft 182 30 = some (.goto 5, 3) := fet B182 (by decide +kernel) (Or.inr rfl)
theorem f182_33 : zft 182 33 = some (.bipush (-2), 2) := fet B182 (by decide +kernel) (Or.inr rfl)
theorem f182_35 : zft 182 35 = some (.ireturn, 1) := fet B182 (by decide +kernel) (Or.inr rfl)
theorem x182_0 : Rn S 182 0 [.ref q, v1, v2, v3] st I J Q = Rn S 182 1 [.ref q, v1, v2, v3] (.ref q :: st) I J Q := rL f182_0 rfl rfl
theorem x182_1 : Rn S 182 1 [v0, v1, v2, v3] (.ref q :: st) I J Q = ((zcls S q = 6 ∧ zcs st ≤ 8) ∧ Rn S 141 0 [.ref q] [] I J (fun v I' J' => Rn S 182 4 [v0, v1, v2, v3] (v.toList ++ st) I' J' Q)) := rCV (As := []) f182_1 rfl rfl rfl rfl (Nat.le_of_ble_eq_true rfl)
theorem x182_4 : Rn S 182 4 [v0, v1, .int a, v3] st I J Q = Rn S 182 5 [v0, v1, .int a, v3] (.int a :: st) I J Q := rL f182_4 rfl rfl
theorem x182_5 : Rn S 182 5 [v0, v1, v2, v3] (.int a :: st) I J Q = Rn S 182 6 [v0, v1, v2, v3] (.long a.toInt64 :: st) I J Q := rS f182_5 rfl
theorem x182_6 : Rn S 182 6 [v0, v1, v2, v3] st I J Q = Rn S 182 7 [v0, v1, v2, v3] (.long 0 :: st) I J Q := rS f182_6 rfl
theorem x182_7 : Rn S 182 7 [v0, v1, v2, v3] st I J Q = Rn S 182 10 [v0, v1, v2, v3] (.long 16 :: st) I J Q := rS f182_7 rfl
theorem x182_10 : Rn S 182 10 [v0, v1, v2, v3] (.long u2 :: .long u1 :: .long u0 :: st) I J Q = (zcs st ≤ 8 ∧ Rn S 96 0 [.long u0, .null, .long u1, .null, .long u2, .null] [] I J (fun v I' J' => Rn S 182 13 [v0, v1, v2, v3] (v.toList ++ st) I' J' Q)) := rCS (As := [.long u0, .long u1, .long u2]) f182_10 rfl rfl rfl rfl (Nat.le_of_ble_eq_true rfl)
theorem x182_13 : Rn S 182 13 [v0, v1, v2, v3] (.int a :: st) I J Q = if a = 0 then Rn S 182 33 [v0, v1, v2, v3] st I J Q else Rn S 182 16 [v0, v1, v2, v3] st I J Q := rIeq f182_13 rfl rfl
theorem x182_16 : Rn S 182 16 [v0, v1, v2, .int a] st I J Q = Rn S 182 17 [v0, v1, v2, .int a] (.int a :: st) I J Q := rL f182_16 rfl rfl
theorem x182_17 : Rn S 182 17 [v0, v1, v2, v3] (.int a0 :: st) I J Q = (zcs st ≤ 8 ∧ Rn S 98 0 [.int a0] [] I J (fun v I' J' => Rn S 182 20 [v0, v1, v2, v3] (v.toList ++ st) I' J' Q)) := rCS (As := [.int a0]) f182_17 rfl rfl rfl rfl (Nat.le_of_ble_eq_true rfl)
theorem x182_20 : Rn S 182 20 [v0, v1, v2, v3] (.int a :: st) I J Q = if a = 0 then Rn S 182 33 [v0, v1, v2, v3] st I J Q else Rn S 182 23 [v0, v1, v2, v3] st I J Q := rIeq f182_20 rfl rfl
theorem x182_23 : Rn S 182 23 [.ref q, v1, v2, v3] st I J Q = Rn S 182 24 [.ref q, v1, v2, v3] (.ref q :: st) I J Q := rL f182_23 rfl rfl
theorem x182_24 : Rn S 182 24 [v0, .int a, v2, v3] st I J Q = Rn S 182 25 [v0, .int a, v2, v3] (.int a :: st) I J Q := rL f182_24 rfl rfl
theorem x182_25 : Rn S 182 25 [v0, v1, .int a, v3] st I J Q = Rn S 182 26 [v0, v1, .int a, v3] (.int a :: st) I J Q := rL f182_25 rfl rfl
theorem x182_26 : Rn S 182 26 [v0, v1, v2, .int a] st I J Q = Rn S 182 27 [v0, v1, v2, .int a] (.int a :: st) I J Q := rL f182_26 rfl rfl
theorem x182_27 : Rn S 182 27 [v0, v1, v2, v3] (.int a2 :: .int a1 :: .int a0 :: .ref q :: st) I J Q = ((zcls S q = 6 ∧ zcs st ≤ 8) ∧ Rn S 181 0 [.ref q, .int a0, .int a1, .int a2, .null] [] I J (fun v I' J' => Rn S 182 30 [v0, v1, v2, v3] (v.toList ++ st) I' J' Q)) := rCV (As := [.int a0, .int a1, .int a2]) f182_27 rfl rfl rfl rfl (Nat.le_of_ble_eq_true rfl)
theorem x182_30 : Rn S 182 30 [v0, v1, v2, v3] st I J Q = Rn S 182 35 [v0, v1, v2, v3] st I J Q := rB f182_30 rfl rfl rfl
theorem x182_33 : Rn S 182 33 [v0, v1, v2, v3] st I J Q = Rn S 182 35 [v0, v1, v2, v3] (.int (-2) :: st) I J Q := rS f182_33 rfl
theorem x182_35 : Rn S 182 35 [v0, v1, v2, v3] [.int a] I J Q = Q (some (.int a)) I J := rR f182_35 rfl rfl rfl rfl rfl
/-! X6.write: 183 -/
theorem B183 : zB 183 = cX6_write := rfl
theorem f183_0 : zft 183 0 = some (.iload_n 1, 1) := fet B183 (by decide +kernel) (Or.inr rfl)
theorem f183_1 : zft 183 1 = some (.invokestatic 95, 3) := fet B183 (by decide +kernel) (Or.inr rfl)
theorem f183_4 : zft 183 4 = some (.ifCond .ne 6, 3) := fet B183 (by decide +kernel) (Or.inr rfl)
theorem f183_7 : zft 183 7 = some (.bipush (-2), 2) := fet B183 (by decide +kernel) (Or.inr rfl)
theorem f183_9 : zft 183 9 = some (.ireturn, 1) := fet B183 (by decide +kernel) (Or.inr rfl)
theorem f183_10 : zft 183 10 = some (.aload_n 0, 1) := fet B183 (by decide +kernel) (Or.inr rfl)
theorem f183_11 : zft 183 11 = some (.getfield 7, 3) := fet B183 (by decide +kernel) (Or.inr rfl)
theorem f183_14 : zft 183 14 = some (.iload_n 1, 1) := fet B183 (by decide +kernel) (Or.inr rfl)
theorem f183_15 : zft 183 15 = some (.iaload, 1) := fet B183 (by decide +kernel) (Or.inr rfl)
theorem f183_16 : zft 183 16 = some (.ifCond .ge 9, 3) := fet B183 (by decide +kernel) (Or.inr rfl)
theorem f183_19 : zft 183 19 = some (.aload_n 0, 1) := fet B183 (by decide +kernel) (Or.inr rfl)
theorem f183_20 : zft 183 20 = some (.iconst 1, 1) := fet B183 (by decide +kernel) (Or.inr rfl)
theorem f183_21 : zft 183 21 = some (.invokevirtual 101, 3) := fet B183 (by decide +kernel) (Or.inr rfl)
theorem f183_24 : zft 183 24 = some (.ireturn, 1) := fet B183 (by decide +kernel) (Or.inr rfl)
theorem f183_25 : zft 183 25 = some (.aload_n 0, 1) := fet B183 (by decide +kernel) (Or.inr rfl)
theorem f183_26 : zft 183 26 = some (.invokevirtual 205, 3) := fet B183 (by decide +kernel) (Or.inr rfl)
theorem f183_29 : zft 183 29 = some (.aload_n 0, 1) := fet B183 (by decide +kernel) (Or.inr rfl)
theorem f183_30 : zft 183 30 = some (.getfield 13, 3) := fet B183 (by decide +kernel) (Or.inr rfl)
theorem f183_33 : zft 183 33 = some (.iload_n 1, 1) := fet B183 (by decide +kernel) (Or.inr rfl)
theorem f183_34 : zft 183 34 = some (.iaload, 1) := fet B183 (by decide +kernel) (Or.inr rfl)
theorem f183_35 : zft 183 35 = some (.bipush 10, 2) := fet B183 (by decide +kernel) (Or.inr rfl)
theorem f183_37 : zft 183 37 = some (.invokestatic 232, 3) := fet B183 (by decide +kernel) (Or.inr rfl)
theorem f183_40 : zft 183 40 = some (.istore_n 2, 1) := fet B183 (by decide +kernel) (Or.inr rfl)
theorem f183_41 : zft 183 41 = some (.iconst 0, 1) := fet B183 (by decide +kernel) (Or.inr rfl)
theorem f183_42 : zft 183 42 = some (.istore_n 3, 1) := fet B183 (by decide +kernel) (Or.inr rfl)
theorem f183_43 : zft 183 43 = some (.iload_n 3, 1) := fet B183 (by decide +kernel) (Or.inr rfl)
theorem f183_44 : zft 183 44 = some (.iload_n 2, 1) := fet B183 (by decide +kernel) (Or.inr rfl)
theorem f183_45 : zft 183 45 = some (.if_icmp .ge 35, 3) := fet B183 (by decide +kernel) (Or.inr rfl)
theorem f183_48 : zft 183 48 = some (.aload_n 0, 1) := fet B183 (by decide +kernel) (Or.inr rfl)
theorem f183_49 : zft 183 49 = some (.getfield 16, 3) := fet B183 (by decide +kernel) (Or.inr rfl)
theorem f183_52 : zft 183 52 = some (.bipush 60, 2) := fet B183 (by decide +kernel) (Or.inr rfl)
theorem f183_54 : zft 183 54 = some (.iload_n 1, 1) := fet B183 (by decide +kernel) (Or.inr rfl)
theorem f183_55 : zft 183 55 = some (.imul, 1) := fet B183 (by decide +kernel) (Or.inr rfl)
theorem f183_56 : zft 183 56 = some (.iload_n 3, 1) := fet B183 (by decide +kernel) (Or.inr rfl)
theorem f183_57 : zft 183 57 = some (.iadd, 1) := fet B183 (by decide +kernel) (Or.inr rfl)
theorem f183_58 : zft 183 58 = some (.aload_n 0, 1) := fet B183 (by decide +kernel) (Or.inr rfl)
theorem f183_59 : zft 183 59 = some (.getfield 7, 3) := fet B183 (by decide +kernel) (Or.inr rfl)
theorem f183_62 : zft 183 62 = some (.iload_n 1, 1) := fet B183 (by decide +kernel) (Or.inr rfl)
theorem f183_63 : zft 183 63 = some (.iaload, 1) := fet B183 (by decide +kernel) (Or.inr rfl)
theorem f183_64 : zft 183 64 = some (.aload_n 0, 1) := fet B183 (by decide +kernel) (Or.inr rfl)
theorem f183_65 : zft 183 65 = some (.getfield 68, 3) := fet B183 (by decide +kernel) (Or.inr rfl)
theorem f183_68 : zft 183 68 = some (.iload_n 3, 1) := fet B183 (by decide +kernel) (Or.inr rfl)
theorem f183_69 : zft 183 69 = some (.iaload, 1) := fet B183 (by decide +kernel) (Or.inr rfl)
theorem f183_70 : zft 183 70 = some (.invokestatic 109, 3) := fet B183 (by decide +kernel) (Or.inr rfl)
theorem f183_73 : zft 183 73 = some (.iastore, 1) := fet B183 (by decide +kernel) (Or.inr rfl)
theorem f183_74 : zft 183 74 = some (.iinc 3 1, 3) := fet B183 (by decide +kernel) (Or.inr rfl)
theorem f183_77 : zft 183 77 = some (.goto (-34), 3) := fet B183 (by decide +kernel) (Or.inr rfl)
theorem f183_80 : zft 183 80 = some (.iload_n 2, 1) := fet B183 (by decide +kernel) (Or.inr rfl)
theorem f183_81 : zft 183 81 = some (.ireturn, 1) := fet B183 (by decide +kernel) (Or.inr rfl)
theorem x183_0 : Rn S 183 0 [v0, .int a, v2, v3] st I J Q = Rn S 183 1 [v0, .int a, v2, v3] (.int a :: st) I J Q := rL f183_0 rfl rfl
theorem x183_1 : Rn S 183 1 [v0, v1, v2, v3] (.int a0 :: st) I J Q = (zcs st ≤ 8 ∧ Rn S 105 0 [.int a0] [] I J (fun v I' J' => Rn S 183 4 [v0, v1, v2, v3] (v.toList ++ st) I' J' Q)) := rCS (As := [.int a0]) f183_1 rfl rfl rfl rfl (Nat.le_of_ble_eq_true rfl)
theorem x183_4 : Rn S 183 4 [v0, v1, v2, v3] (.int a :: st) I J Q = if a = 0 then Rn S 183 7 [v0, v1, v2, v3] st I J Q else Rn S 183 10 [v0, v1, v2, v3] st I J Q := rIne f183_4 rfl rfl
theorem x183_7 : Rn S 183 7 [v0, v1, v2, v3] st I J Q = Rn S 183 9 [v0, v1, v2, v3] (.int (-2) :: st) I J Q := rS f183_7 rfl
theorem x183_9 : Rn S 183 9 [v0, v1, v2, v3] [.int a] I J Q = Q (some (.int a)) I J := rR f183_9 rfl rfl rfl rfl rfl
theorem x183_10 : Rn S 183 10 [.ref q, v1, v2, v3] st I J Q = Rn S 183 11 [.ref q, v1, v2, v3] (.ref q :: st) I J Q := rL f183_10 rfl rfl
theorem x183_11_65 : Rn (zG xl) 183 11 [v0, v1, v2, v3] (.ref 65 :: st) I J Q = Rn (zG xl) 183 14 [v0, v1, v2, v3] (.ref 66 :: st) I J Q := (rGf f183_11 rfl).trans (tr_and rfl)
theorem x183_14 : Rn S 183 14 [v0, .int a, v2, v3] st I J Q = Rn S 183 15 [v0, .int a, v2, v3] (.int a :: st) I J Q := rL f183_14 rfl rfl
theorem x183_15 : Rn S 183 15 [v0, v1, v2, v3] (.int a :: .ref q :: st) I J Q = (zai S q a ∧ Rn S 183 16 [v0, v1, v2, v3] (.int (I q a.toNatClampNeg) :: st) I J Q) := rIal f183_15
theorem x183_16 : Rn S 183 16 [v0, v1, v2, v3] (.int a :: st) I J Q = if a < 0 then Rn S 183 19 [v0, v1, v2, v3] st I J Q else Rn S 183 25 [v0, v1, v2, v3] st I J Q := rIge f183_16 rfl rfl
theorem x183_19 : Rn S 183 19 [.ref q, v1, v2, v3] st I J Q = Rn S 183 20 [.ref q, v1, v2, v3] (.ref q :: st) I J Q := rL f183_19 rfl rfl
theorem x183_20 : Rn S 183 20 [v0, v1, v2, v3] st I J Q = Rn S 183 21 [v0, v1, v2, v3] (.int 1 :: st) I J Q := rS f183_20 rfl
theorem x183_21 : Rn S 183 21 [v0, v1, v2, v3] (.int a0 :: .ref q :: st) I J Q = ((zcls S q = 6 ∧ zcs st ≤ 8) ∧ Rn S 104 0 [.ref q, .int a0] [] I J (fun v I' J' => Rn S 183 24 [v0, v1, v2, v3] (v.toList ++ st) I' J' Q)) := rCV (As := [.int a0]) f183_21 rfl rfl rfl rfl (Nat.le_of_ble_eq_true rfl)
theorem x183_24 : Rn S 183 24 [v0, v1, v2, v3] [.int a] I J Q = Q (some (.int a)) I J := rR f183_24 rfl rfl rfl rfl rfl
theorem x183_25 : Rn S 183 25 [.ref q, v1, v2, v3] st I J Q = Rn S 183 26 [.ref q, v1, v2, v3] (.ref q :: st) I J Q := rL f183_25 rfl rfl
theorem x183_26 : Rn S 183 26 [v0, v1, v2, v3] (.ref q :: st) I J Q = ((zcls S q = 6 ∧ zcs st ≤ 8) ∧ Rn S 141 0 [.ref q] [] I J (fun v I' J' => Rn S 183 29 [v0, v1, v2, v3] (v.toList ++ st) I' J' Q)) := rCV (As := []) f183_26 rfl rfl rfl rfl (Nat.le_of_ble_eq_true rfl)
theorem x183_29 : Rn S 183 29 [.ref q, v1, v2, v3] st I J Q = Rn S 183 30 [.ref q, v1, v2, v3] (.ref q :: st) I J Q := rL f183_29 rfl rfl
theorem x183_30_65 : Rn (zG xl) 183 30 [v0, v1, v2, v3] (.ref 65 :: st) I J Q = Rn (zG xl) 183 33 [v0, v1, v2, v3] (.ref 67 :: st) I J Q := (rGf f183_30 rfl).trans (tr_and rfl)
theorem x183_33 : Rn S 183 33 [v0, .int a, v2, v3] st I J Q = Rn S 183 34 [v0, .int a, v2, v3] (.int a :: st) I J Q := rL f183_33 rfl rfl
theorem x183_34 : Rn S 183 34 [v0, v1, v2, v3] (.int a :: .ref q :: st) I J Q = (zai S q a ∧ Rn S 183 35 [v0, v1, v2, v3] (.int (I q a.toNatClampNeg) :: st) I J Q) := rIal f183_34
theorem x183_35 : Rn S 183 35 [v0, v1, v2, v3] st I J Q = Rn S 183 37 [v0, v1, v2, v3] (.int 10 :: st) I J Q := rS f183_35 rfl
theorem x183_37 : Rn S 183 37 [v0, v1, v2, v3] (.int a1 :: .int a0 :: st) I J Q = (zcs st ≤ 8 ∧ Rn S 101 0 [.int a0, .int a1] [] I J (fun v I' J' => Rn S 183 40 [v0, v1, v2, v3] (v.toList ++ st) I' J' Q)) := rCS (As := [.int a0, .int a1]) f183_37 rfl rfl rfl rfl (Nat.le_of_ble_eq_true rfl)
theorem x183_40 : Rn S 183 40 [v0, v1, v2, v3] (.int a :: st) I J Q = Rn S 183 41 [v0, zkl v1, .int a, v3] st I J Q := rL f183_40 rfl rfl
theorem x183_41 : Rn S 183 41 [v0, v1, v2, v3] st I J Q = Rn S 183 42 [v0, v1, v2, v3] (.int 0 :: st) I J Q := rS f183_41 rfl
theorem x183_42 : Rn S 183 42 [v0, v1, v2, v3] (.int a :: st) I J Q = Rn S 183 43 [v0, v1, zkl v2, .int a] st I J Q := rL f183_42 rfl rfl
theorem h183_43 : Rn S 183 43 [v0, v1, v2, .int a] st I J Q = Rn S 183 44 [v0, v1, v2, .int a] (.int a :: st) I J Q := rL f183_43 rfl rfl
theorem x183_44 : Rn S 183 44 [v0, v1, .int a, v3] st I J Q = Rn S 183 45 [v0, v1, .int a, v3] (.int a :: st) I J Q := rL f183_44 rfl rfl
theorem x183_45 : Rn S 183 45 [v0, v1, v2, v3] (.int b :: .int a :: st) I J Q = if a < b then Rn S 183 48 [v0, v1, v2, v3] st I J Q else Rn S 183 80 [v0, v1, v2, v3] st I J Q := rCge f183_45 rfl rfl
theorem x183_48 : Rn S 183 48 [.ref q, v1, v2, v3] st I J Q = Rn S 183 49 [.ref q, v1, v2, v3] (.ref q :: st) I J Q := rL f183_48 rfl rfl
theorem x183_49_65 : Rn (zG xl) 183 49 [v0, v1, v2, v3] (.ref 65 :: st) I J Q = Rn (zG xl) 183 52 [v0, v1, v2, v3] (.ref 68 :: st) I J Q := (rGf f183_49 rfl).trans (tr_and rfl)
theorem x183_52 : Rn S 183 52 [v0, v1, v2, v3] st I J Q = Rn S 183 54 [v0, v1, v2, v3] (.int 60 :: st) I J Q := rS f183_52 rfl
theorem x183_54 : Rn S 183 54 [v0, .int a, v2, v3] st I J Q = Rn S 183 55 [v0, .int a, v2, v3] (.int a :: st) I J Q := rL f183_54 rfl rfl
theorem x183_55 : Rn S 183 55 [v0, v1, v2, v3] (.int b :: .int a :: st) I J Q = Rn S 183 56 [v0, v1, v2, v3] (.int (a * b) :: st) I J Q := rS f183_55 rfl
theorem x183_56 : Rn S 183 56 [v0, v1, v2, .int a] st I J Q = Rn S 183 57 [v0, v1, v2, .int a] (.int a :: st) I J Q := rL f183_56 rfl rfl
theorem x183_57 : Rn S 183 57 [v0, v1, v2, v3] (.int b :: .int a :: st) I J Q = Rn S 183 58 [v0, v1, v2, v3] (.int (a + b) :: st) I J Q := rS f183_57 rfl
theorem x183_58 : Rn S 183 58 [.ref q, v1, v2, v3] st I J Q = Rn S 183 59 [.ref q, v1, v2, v3] (.ref q :: st) I J Q := rL f183_58 rfl rfl
theorem x183_59_65 : Rn (zG xl) 183 59 [v0, v1, v2, v3] (.ref 65 :: st) I J Q = Rn (zG xl) 183 62 [v0, v1, v2, v3] (.ref 66 :: st) I J Q := (rGf f183_59 rfl).trans (tr_and rfl)
theorem x183_62 : Rn S 183 62 [v0, .int a, v2, v3] st I J Q = Rn S 183 63 [v0, .int a, v2, v3] (.int a :: st) I J Q := rL f183_62 rfl rfl
theorem x183_63 : Rn S 183 63 [v0, v1, v2, v3] (.int a :: .ref q :: st) I J Q = (zai S q a ∧ Rn S 183 64 [v0, v1, v2, v3] (.int (I q a.toNatClampNeg) :: st) I J Q) := rIal f183_63
theorem x183_64 : Rn S 183 64 [.ref q, v1, v2, v3] st I J Q = Rn S 183 65 [.ref q, v1, v2, v3] (.ref q :: st) I J Q := rL f183_64 rfl rfl
theorem x183_65_65 : Rn (zG xl) 183 65 [v0, v1, v2, v3] (.ref 65 :: st) I J Q = Rn (zG xl) 183 68 [v0, v1, v2, v3] (.ref 85 :: st) I J Q := (rGf f183_65 rfl).trans (tr_and rfl)
theorem x183_68 : Rn S 183 68 [v0, v1, v2, .int a] st I J Q = Rn S 183 69 [v0, v1, v2, .int a] (.int a :: st) I J Q := rL f183_68 rfl rfl
theorem x183_69 : Rn S 183 69 [v0, v1, v2, v3] (.int a :: .ref q :: st) I J Q = (zai S q a ∧ Rn S 183 70 [v0, v1, v2, v3] (.int (I q a.toNatClampNeg) :: st) I J Q) := rIal f183_69
theorem x183_70 : Rn S 183 70 [v0, v1, v2, v3] (.int a1 :: .int a0 :: st) I J Q = (zcs st ≤ 8 ∧ Rn S 109 0 [.int a0, .int a1] [] I J (fun v I' J' => Rn S 183 73 [v0, v1, v2, v3] (v.toList ++ st) I' J' Q)) := rCS (As := [.int a0, .int a1]) f183_70 rfl rfl rfl rfl (Nat.le_of_ble_eq_true rfl)
theorem x183_73 : Rn S 183 73 [v0, v1, v2, v3] (.int b :: .int a :: .ref q :: st) I J Q = (zas S q a ∧ Rn S 183 74 [v0, v1, v2, v3] st (zr I q (upd (I q) a.toNatClampNeg b)) J Q) := rIas f183_73
theorem x183_74 : Rn S 183 74 [v0, v1, v2, .int a] st I J Q = Rn S 183 77 [v0, v1, zkl v2, .int (a + 1)] st I J Q := rL f183_74 rfl rfl
theorem x183_77 : Rn S 183 77 [v0, v1, v2, v3] st I J Q = Rn S 183 43 [v0, v1, v2, v3] st I J Q := rB f183_77 rfl rfl rfl
theorem x183_80 : Rn S 183 80 [v0, v1, .int a, v3] st I J Q = Rn S 183 81 [v0, v1, .int a, v3] (.int a :: st) I J Q := rL f183_80 rfl rfl
theorem x183_81 : Rn S 183 81 [v0, v1, v2, v3] [.int a] I J Q = Q (some (.int a)) I J := rR f183_81 rfl rfl rfl rfl rfl
/-! X6.count: 184 -/
theorem B184 : zB 184 = cX6_count := rfl
theorem f184_0 : zft 184 0 = some (.aload_n 0, 1) := fet B184 (by decide +kernel) (Or.inr rfl)
theorem f184_1 : zft 184 1 = some (.invokevirtual 205, 3) := fet B184 (by decide +kernel) (Or.inr rfl)
theorem f184_4 : zft 184 4 = some (.iload_n 1, 1) := fet B184 (by decide +kernel) (Or.inr rfl)
theorem f184_5 : zft 184 5 = some (.tableswitch 90 0 8 #[51, 56, 61, 66, 66, 66, 75, 80, 85], 51) := fet B184 (by decide +kernel) (Or.inl rfl)
theorem f184_56 : zft 184 56 = some (.aload_n 0, 1) := fet B184 (by decide +kernel) (Or.inr rfl)
theorem f184_57 : zft 184 57 = some (.getfield 122, 3) := fet B184 (by decide +kernel) (Or.inr rfl)
theorem f184_60 : zft 184 60 = some (.ireturn, 1) := fet B184 (by decide +kernel) (Or.inr rfl)
theorem f184_61 : zft 184 61 = some (.aload_n 0, 1) := fet B184 (by decide +kernel) (Or.inr rfl)
theorem f184_62 : zft 184 62 = some (.getfield 128, 3) := fet B184 (by decide +kernel) (Or.inr rfl)
theorem f184_65 : zft 184 65 = some (.ireturn, 1) := fet B184 (by decide +kernel) (Or.inr rfl)
theorem f184_66 : zft 184 66 = some (.aload_n 0, 1) := fet B184 (by decide +kernel) (Or.inr rfl)
theorem f184_67 : zft 184 67 = some (.getfield 134, 3) := fet B184 (by decide +kernel) (Or.inr rfl)
theorem f184_70 : zft 184 70 = some (.ireturn, 1) := fet B184 (by decide +kernel) (Or.inr rfl)
theorem f184_71 : zft 184 71 = some (.aload_n 0, 1) := fet B184 (by decide +kernel) (Or.inr rfl)
theorem f184_72 : zft 184 72 = some (.getfield 25, 3) := fet B184 (by decide +kernel) (Or.inr rfl)
theorem f184_75 : zft 184 75 = some (.iload_n 1, 1) := fet B184 (by decide +kernel) (Or.inr rfl)
theorem f184_76 : zft 184 76 = some (.iconst 3, 1) := fet B184 (by decide +kernel) (Or.inr rfl)
theorem f184_77 : zft 184 77 = some (.isub, 1) := fet B184 (by decide +kernel) (Or.inr rfl)
theorem f184_78 : zft 184 78 = some (.iaload, 1) := fet B184 (by decide +kernel) (Or.inr rfl)
theorem f184_79 : zft 184 79 = some (.ireturn, 1) := fet B184 (by decide +kernel) (Or.inr rfl)
theorem f184_80 : zft 184 80 = some (.aload_n 0, 1) := fet B184 (by decide +kernel) (Or.inr rfl)
theorem f184_81 : zft 184 81 = some (.getfield 179, 3) := fet B184 (by decide +kernel) (Or.inr rfl)
theorem f184_84 : zft 184 84 = some (.ireturn, 1) := fet B184 (by decide +kernel) (Or.inr rfl)
theorem f184_85 : zft 184 85 = some (.aload_n 0, 1) := fet B184 (by decide +kernel) (Or.inr rfl)
theorem f184_86 : zft 184 86 = some (.getfield 258, 3) := fet B184 (by decide +kernel) (Or.inr rfl)
theorem f184_89 : zft 184 89 = some (.ireturn, 1) := fet B184 (by decide +kernel) (Or.inr rfl)
theorem f184_90 : zft 184 90 = some (.aload_n 0, 1) := fet B184 (by decide +kernel) (Or.inr rfl)
theorem f184_91 : zft 184 91 = some (.getfield 90, 3) := fet B184 (by decide +kernel) (Or.inr rfl)
theorem f184_94 : zft 184 94 = some (.ireturn, 1) := fet B184 (by decide +kernel) (Or.inr rfl)
theorem f184_95 : zft 184 95 = some (.bipush (-2), 2) := fet B184 (by decide +kernel) (Or.inr rfl)
theorem f184_97 : zft 184 97 = some (.ireturn, 1) := fet B184 (by decide +kernel) (Or.inr rfl)
theorem x184_0 : Rn S 184 0 [.ref q, v1] st I J Q = Rn S 184 1 [.ref q, v1] (.ref q :: st) I J Q := rL f184_0 rfl rfl
theorem x184_1 : Rn S 184 1 [v0, v1] (.ref q :: st) I J Q = ((zcls S q = 6 ∧ zcs st ≤ 8) ∧ Rn S 141 0 [.ref q] [] I J (fun v I' J' => Rn S 184 4 [v0, v1] (v.toList ++ st) I' J' Q)) := rCV (As := []) f184_1 rfl rfl rfl rfl (Nat.le_of_ble_eq_true rfl)
theorem x184_4 : Rn S 184 4 [v0, .int a] st I J Q = Rn S 184 5 [v0, .int a] (.int a :: st) I J Q := rL f184_4 rfl rfl
theorem x184_5 : Rn S 184 5 [v0, v1] (.int a :: st) I J Q = Rn S 184 (ztb 95 a [56, 61, 66, 71, 71, 71, 80, 85, 90] 0) [v0, v1] st I J Q := rTb f184_5 rfl (by decide +kernel) (by decide +kernel)
theorem x184_56 : Rn S 184 56 [.ref q, v1] st I J Q = Rn S 184 57 [.ref q, v1] (.ref q :: st) I J Q := rL f184_56 rfl rfl
theorem x184_57_65 : Rn (zG xl) 184 57 [v0, v1] (.ref 65 :: st) I J Q = Rn (zG xl) 184 60 [v0, v1] (.int (I 65 7) :: st) I J Q := (rGf f184_57 rfl).trans (tr_and rfl)
theorem x184_60 : Rn S 184 60 [v0, v1] [.int a] I J Q = Q (some (.int a)) I J := rR f184_60 rfl rfl rfl rfl rfl
theorem x184_61 : Rn S 184 61 [.ref q, v1] st I J Q = Rn S 184 62 [.ref q, v1] (.ref q :: st) I J Q := rL f184_61 rfl rfl
theorem x184_62_65 : Rn (zG xl) 184 62 [v0, v1] (.ref 65 :: st) I J Q = Rn (zG xl) 184 65 [v0, v1] (.int (I 65 9) :: st) I J Q := (rGf f184_62 rfl).trans (tr_and rfl)
theorem x184_65 : Rn S 184 65 [v0, v1] [.int a] I J Q = Q (some (.int a)) I J := rR f184_65 rfl rfl rfl rfl rfl
theorem x184_66 : Rn S 184 66 [.ref q, v1] st I J Q = Rn S 184 67 [.ref q, v1] (.ref q :: st) I J Q := rL f184_66 rfl rfl
theorem x184_67_65 : Rn (zG xl) 184 67 [v0, v1] (.ref 65 :: st) I J Q = Rn (zG xl) 184 70 [v0, v1] (.int (I 65 11) :: st) I J Q := (rGf f184_67 rfl).trans (tr_and rfl)
theorem x184_70 : Rn S 184 70 [v0, v1] [.int a] I J Q = Q (some (.int a)) I J := rR f184_70 rfl rfl rfl rfl rfl
theorem x184_71 : Rn S 184 71 [.ref q, v1] st I J Q = Rn S 184 72 [.ref q, v1] (.ref q :: st) I J Q := rL f184_71 rfl rfl
theorem x184_72_65 : Rn (zG xl) 184 72 [v0, v1] (.ref 65 :: st) I J Q = Rn (zG xl) 184 75 [v0, v1] (.ref 71 :: st) I J Q := (rGf f184_72 rfl).trans (tr_and rfl)
theorem x184_75 : Rn S 184 75 [v0, .int a] st I J Q = Rn S 184 76 [v0, .int a] (.int a :: st) I J Q := rL f184_75 rfl rfl
theorem x184_76 : Rn S 184 76 [v0, v1] st I J Q = Rn S 184 77 [v0, v1] (.int 3 :: st) I J Q := rS f184_76 rfl
theorem x184_77 : Rn S 184 77 [v0, v1] (.int b :: .int a :: st) I J Q = Rn S 184 78 [v0, v1] (.int (a - b) :: st) I J Q := rS f184_77 rfl
theorem x184_78 : Rn S 184 78 [v0, v1] (.int a :: .ref q :: st) I J Q = (zai S q a ∧ Rn S 184 79 [v0, v1] (.int (I q a.toNatClampNeg) :: st) I J Q) := rIal f184_78
theorem x184_79 : Rn S 184 79 [v0, v1] [.int a] I J Q = Q (some (.int a)) I J := rR f184_79 rfl rfl rfl rfl rfl
theorem x184_80 : Rn S 184 80 [.ref q, v1] st I J Q = Rn S 184 81 [.ref q, v1] (.ref q :: st) I J Q := rL f184_80 rfl rfl
theorem x184_81_65 : Rn (zG xl) 184 81 [v0, v1] (.ref 65 :: st) I J Q = Rn (zG xl) 184 84 [v0, v1] (.int (I 65 14) :: st) I J Q := (rGf f184_81 rfl).trans (tr_and rfl)
theorem x184_84 : Rn S 184 84 [v0, v1] [.int a] I J Q = Q (some (.int a)) I J := rR f184_84 rfl rfl rfl rfl rfl
theorem x184_85 : Rn S 184 85 [.ref q, v1] st I J Q = Rn S 184 86 [.ref q, v1] (.ref q :: st) I J Q := rL f184_85 rfl rfl
theorem x184_86_65 : Rn (zG xl) 184 86 [v0, v1] (.ref 65 :: st) I J Q = Rn (zG xl) 184 89 [v0, v1] (.int (I 65 28) :: st) I J Q := (rGf f184_86 rfl).trans (tr_and rfl)
theorem x184_89 : Rn S 184 89 [v0, v1] [.int a] I J Q = Q (some (.int a)) I J := rR f184_89 rfl rfl rfl rfl rfl
theorem x184_90 : Rn S 184 90 [.ref q, v1] st I J Q = Rn S 184 91 [.ref q, v1] (.ref q :: st) I J Q := rL f184_90 rfl rfl
theorem x184_91_65 : Rn (zG xl) 184 91 [v0, v1] (.ref 65 :: st) I J Q = Rn (zG xl) 184 94 [v0, v1] (.int (I 65 4) :: st) I J Q := (rGf f184_91 rfl).trans (tr_and rfl)
theorem x184_94 : Rn S 184 94 [v0, v1] [.int a] I J Q = Q (some (.int a)) I J := rR f184_94 rfl rfl rfl rfl rfl
theorem x184_95 : Rn S 184 95 [v0, v1] st I J Q = Rn S 184 97 [v0, v1] (.int (-2) :: st) I J Q := rS f184_95 rfl
theorem x184_97 : Rn S 184 97 [v0, v1] [.int a] I J Q = Q (some (.int a)) I J := rR f184_97 rfl rfl rfl rfl rfl
/-! X6.tellsLine: 185 -/
theorem B185 : zB 185 = cX6_tellsLine := rfl
theorem f185_0 : zft 185 0 = some (.aload_n 0, 1) := fet B185 (by decide +kernel) (Or.inr rfl)
theorem f185_1 : zft 185 1 = some (.invokevirtual 202, 3) := fet B185 (by decide +kernel) (Or.inr rfl)
theorem f185_4 : zft 185 4 = some (.lload_n 1, 1) := fet B185 (by decide +kernel) (Or.inr rfl)
theorem f185_5 : zft 185 5 = some (.lstore 4, 2) := fet B185 (by decide +kernel) (Or.inr rfl)
theorem f185_7 : zft 185 7 = some (.iconst 0, 1) := fet B185 (by decide +kernel) (Or.inr rfl)
theorem f185_8 : zft 185 8 = some (.istore 6, 2) := fet B185 (by decide +kernel) (Or.inr rfl)
theorem f185_10 : zft 185 10 = some (.iload 6, 2) := fet B185 (by decide +kernel) (Or.inr rfl)
theorem f185_12 : zft 185 12 = some (.iconst 3, 1) := fet B185 (by decide +kernel) (Or.inr rfl)
theorem f185_13 : zft 185 13 = some (.if_icmp .ge 26, 3) := fet B185 (by decide +kernel) (Or.inr rfl)
theorem f185_16 : zft 185 16 = some (.ldc2_w 304, 3) := fet B185 (by decide +kernel) (Or.inr rfl)
theorem f185_19 : zft 185 19 = some (.lload 4, 2) := fet B185 (by decide +kernel) (Or.inr rfl)
theorem f185_21 : zft 185 21 = some (.lmul, 1) := fet B185 (by decide +kernel) (Or.inr rfl)
theorem f185_22 : zft 185 22 = some (.aload_n 0, 1) := fet B185 (by decide +kernel) (Or.inr rfl)
theorem f185_23 : zft 185 23 = some (.iload_n 3, 1) := fet B185 (by decide +kernel) (Or.inr rfl)
theorem f185_24 : zft 185 24 = some (.iload 6, 2) := fet B185 (by decide +kernel) (Or.inr rfl)
theorem f185_26 : zft 185 26 = some (.invokevirtual 158, 3) := fet B185 (by decide +kernel) (Or.inr rfl)
theorem f185_29 : zft 185 29 = some (.i2l, 1) := fet B185 (by decide +kernel) (Or.inr rfl)
theorem f185_30 : zft 185 30 = some (.ladd, 1) := fet B185 (by decide +kernel) (Or.inr rfl)
theorem f185_31 : zft 185 31 = some (.lstore 4, 2) := fet B185 (by decide +kernel) (Or.inr rfl)
theorem f185_33 : zft 185 33 = some (.iinc 6 1, 3) := fet B185 (by decide +kernel) (Or.inr rfl)
theorem f185_36 : zft 185 36 = some (.goto (-26), 3) := fet B185 (by decide +kernel) (Or.inr rfl)
theorem f185_39 : zft 185 39 = some (.iconst 0, 1) := fet B185 (by decide +kernel) (Or.inr rfl)
theorem f185_40 : zft 185 40 = some (.istore 6, 2) := fet B185 (by decide +kernel) (Or.inr rfl)
theorem f185_42 : zft 185 42 = some (.iload 6, 2) := fet B185 (by decide +kernel) (Or.inr rfl)
theorem f185_44 : zft 185 44 = some (.iconst 3, 1) := fet B185 (by decide +kernel) (Or.inr rfl)
theorem f185_45 : zft 185 45 = some (.if_icmp .ge 26, 3) := fet B185 (by decide +kernel) (Or.inr rfl)
theorem f185_48 : zft 185 48 = some (.ldc2_w 304, 3) := fet B185 (by decide +kernel) (Or.inr rfl)
theorem f185_51 : zft 185 51 = some (.lload 4, 2) := fet B185 (by decide +kernel) (Or.inr rfl)
theorem f185_53 : zft 185 53 = some (.lmul, 1) := fet B185 (by decide +kernel) (Or.inr rfl)
theorem f185_54 : zft 185 54 = some (.aload_n 0, 1) := fet B185 (by decide +kernel) (Or.inr rfl)
theorem f185_55 : zft 185 55 = some (.iload_n 3, 1) := fet B185 (by decide +kernel) (Or.inr rfl)
theorem f185_56 : zft 185 56 = some (.iload 6, 2) := fet B185 (by decide +kernel) (Or.inr rfl)
theorem f185_58 : zft 185 58 = some (.invokevirtual 208, 3) := fet B185 (by decide +kernel) (Or.inr rfl)
theorem f185_61 : zft 185 61 = some (.i2l, 1) := fet B185 (by decide +kernel) (Or.inr rfl)
theorem f185_62 : zft 185 62 = some (.ladd, 1) := fet B185 (by decide +kernel) (Or.inr rfl)
theorem f185_63 : zft 185 63 = some (.lstore 4, 2) := fet B185 (by decide +kernel) (Or.inr rfl)
theorem f185_65 : zft 185 65 = some (.iinc 6 1, 3) := fet B185 (by decide +kernel) (Or.inr rfl)
theorem f185_68 : zft 185 68 = some (.goto (-26), 3) := fet B185 (by decide +kernel) (Or.inr rfl)
theorem f185_71 : zft 185 71 = some (.ldc2_w 304, 3) := fet B185 (by decide +kernel) (Or.inr rfl)
theorem f185_74 : zft 185 74 = some (.lload 4, 2) := fet B185 (by decide +kernel) (Or.inr rfl)
theorem f185_76 : zft 185 76 = some (.lmul, 1) := fet B185 (by decide +kernel) (Or.inr rfl)
theorem f185_77 : zft 185 77 = some (.aload_n 0, 1) := fet B185 (by decide +kernel) (Or.inr rfl)
theorem f185_78 : zft 185 78 = some (.iload_n 3, 1) := fet B185 (by decide +kernel) (Or.inr rfl)
theorem f185_79 : zft 185 79 = some (.invokevirtual 271, 3) := fet B185 (by decide +kernel) (Or.inr rfl)
theorem f185_82 : zft 185 82 = some (.i2l, 1) := fet B185 (by decide +kernel) (Or.inr rfl)
theorem f185_83 : zft 185 83 = some (.ladd, 1) := fet B185 (by decide +kernel) (Or.inr rfl)
theorem f185_84 : zft 185 84 = some (.lstore 4, 2) := fet B185 (by decide +kernel) (Or.inr rfl)
theorem f185_86 : zft 185 86 = some (.ldc2_w 304, 3) := fet B185 (by decide +kernel) (Or.inr rfl)
theorem f185_89 : zft 185 89 = some (.lload 4, 2) := fet B185 (by decide +kernel) (Or.inr rfl)
theorem f185_91 : zft 185 91 = some (.lmul, 1) := fet B185 (by decide +kernel) (Or.inr rfl)
theorem f185_92 : zft 185 92 = some (.aload_n 0, 1) := fet B185 (by decide +kernel) (Or.inr rfl)
theorem f185_93 : zft 185 93 = some (.iconst 5, 1) := fet B185 (by decide +kernel) (Or.inr rfl)
theorem f185_94 : zft 185 94 = some (.iload_n 3, 1) := fet B185 (by decide +kernel) (Or.inr rfl)
theorem f185_95 : zft 185 95 = some (.iconst 0, 1) := fet B185 (by decide +kernel) (Or.inr rfl)
theorem f185_96 : zft 185 96 = some (.invokevirtual 286, 3) := fet B185 (by decide +kernel) (Or.inr rfl)
theorem f185_99 : zft 185 99 = some (.ladd, 1) := fet B185 (by decide +kernel) (Or.inr rfl)
theorem f185_100 : zft 185 100 = some (.lstore 4, 2) := fet B185 (by decide +kernel) (Or.inr rfl)
theorem f185_102 : zft 185 102 = some (.ldc2_w 304, 3) := fet B185 (by decide +kernel) (Or.inr rfl)
theorem f185_105 : zft 185 105 = some (.lload 4, 2) := fet B185 (by decide +kernel) (Or.inr rfl)
theorem f185_107 : zft 185 107 = some (.lmul, 1) := fet B185 (by decide +kernel) (Or.inr rfl)
theorem f185_108 : zft 185 108 = some (.aload_n 0, 1) := fet B185 (by decide +kernel) (Or.inr rfl)
theorem f185_109 : zft 185 109 = some (.iconst 5, 1) := fet B185 (by decide +kernel) (Or.inr rfl)
theorem f185_110 : zft 185 110 = some (.iload_n 3, 1) := fet B185 (by decide +kernel) (Or.inr rfl)
theorem f185_111 : zft 185 111 = some (.iconst 1, 1) := fet B185 (by decide +kernel) (Or.inr rfl)
theorem f185_112 : zft 185 112 = some (.invokevirtual 286, 3) := fet B185 (by decide +kernel) (Or.inr rfl)
theorem f185_115 : zft 185 115 = some (.ladd, 1) := fet B185 (by decide +kernel) (Or.inr rfl)
theorem f185_116 : zft 185 116 = some (.lreturn, 1) := fet B185 (by decide +kernel) (Or.inr rfl)
theorem x185_0 : Rn S 185 0 [.ref q, v1, v2, v3, v4, v5, v6] st I J Q = Rn S 185 1 [.ref q, v1, v2, v3, v4, v5, v6] (.ref q :: st) I J Q := rL f185_0 rfl rfl
theorem x185_1 : Rn S 185 1 [v0, v1, v2, v3, v4, v5, v6] (.ref q :: st) I J Q = ((zcls S q = 6 ∧ zcs st ≤ 8) ∧ Rn S 140 0 [.ref q, .null] [] I J (fun v I' J' => Rn S 185 4 [v0, v1, v2, v3, v4, v5, v6] (v.toList ++ st) I' J' Q)) := rCV (As := []) f185_1 rfl rfl rfl rfl (Nat.le_of_ble_eq_true rfl)
theorem x185_4 : Rn S 185 4 [v0, .long u, v2, v3, v4, v5, v6] st I J Q = Rn S 185 5 [v0, .long u, v2, v3, v4, v5, v6] (.long u :: st) I J Q := rL f185_4 rfl rfl
theorem x185_5 : Rn S 185 5 [v0, v1, v2, v3, v4, v5, v6] (.long u :: st) I J Q = Rn S 185 7 [v0, v1, v2, zkl v3, .long u, .null, v6] st I J Q := rL f185_5 rfl rfl
theorem x185_7 : Rn S 185 7 [v0, v1, v2, v3, v4, v5, v6] st I J Q = Rn S 185 8 [v0, v1, v2, v3, v4, v5, v6] (.int 0 :: st) I J Q := rS f185_7 rfl
theorem x185_8 : Rn S 185 8 [v0, v1, v2, v3, v4, v5, v6] (.int a :: st) I J Q = Rn S 185 10 [v0, v1, v2, v3, v4, zkl v5, .int a] st I J Q := rL f185_8 rfl rfl
theorem h185_10 : Rn S 185 10 [v0, v1, v2, v3, v4, v5, .int a] st I J Q = Rn S 185 12 [v0, v1, v2, v3, v4, v5, .int a] (.int a :: st) I J Q := rL f185_10 rfl rfl
theorem x185_12 : Rn S 185 12 [v0, v1, v2, v3, v4, v5, v6] st I J Q = Rn S 185 13 [v0, v1, v2, v3, v4, v5, v6] (.int 3 :: st) I J Q := rS f185_12 rfl
theorem x185_13 : Rn S 185 13 [v0, v1, v2, v3, v4, v5, v6] (.int b :: .int a :: st) I J Q = if a < b then Rn S 185 16 [v0, v1, v2, v3, v4, v5, v6] st I J Q else Rn S 185 39 [v0, v1, v2, v3, v4, v5, v6] st I J Q := rCge f185_13 rfl rfl
theorem x185_16 : Rn S 185 16 [v0, v1, v2, v3, v4, v5, v6] st I J Q = Rn S 185 19 [v0, v1, v2, v3, v4, v5, v6] (.long 31 :: st) I J Q := rS f185_16 rfl
theorem x185_19 : Rn S 185 19 [v0, v1, v2, v3, .long u, v5, v6] st I J Q = Rn S 185 21 [v0, v1, v2, v3, .long u, v5, v6] (.long u :: st) I J Q := rL f185_19 rfl rfl
theorem x185_21 : Rn S 185 21 [v0, v1, v2, v3, v4, v5, v6] (.long w :: .long u :: st) I J Q = Rn S 185 22 [v0, v1, v2, v3, v4, v5, v6] (.long (u * w) :: st) I J Q := rS f185_21 rfl
theorem x185_22 : Rn S 185 22 [.ref q, v1, v2, v3, v4, v5, v6] st I J Q = Rn S 185 23 [.ref q, v1, v2, v3, v4, v5, v6] (.ref q :: st) I J Q := rL f185_22 rfl rfl
theorem x185_23 : Rn S 185 23 [v0, v1, v2, .int a, v4, v5, v6] st I J Q = Rn S 185 24 [v0, v1, v2, .int a, v4, v5, v6] (.int a :: st) I J Q := rL f185_23 rfl rfl
theorem x185_24 : Rn S 185 24 [v0, v1, v2, v3, v4, v5, .int a] st I J Q = Rn S 185 26 [v0, v1, v2, v3, v4, v5, .int a] (.int a :: st) I J Q := rL f185_24 rfl rfl
theorem x185_26 : Rn S 185 26 [v0, v1, v2, v3, v4, v5, v6] (.int a1 :: .int a0 :: .ref q :: st) I J Q = ((zcls S q = 6 ∧ zcs st ≤ 8) ∧ Rn S 129 0 [.ref q, .int a0, .int a1] [] I J (fun v I' J' => Rn S 185 29 [v0, v1, v2, v3, v4, v5, v6] (v.toList ++ st) I' J' Q)) := rCV (As := [.int a0, .int a1]) f185_26 rfl rfl rfl rfl (Nat.le_of_ble_eq_true rfl)
theorem x185_29 : Rn S 185 29 [v0, v1, v2, v3, v4, v5, v6] (.int a :: st) I J Q = Rn S 185 30 [v0, v1, v2, v3, v4, v5, v6] (.long a.toInt64 :: st) I J Q := rS f185_29 rfl
theorem x185_30 : Rn S 185 30 [v0, v1, v2, v3, v4, v5, v6] (.long w :: .long u :: st) I J Q = Rn S 185 31 [v0, v1, v2, v3, v4, v5, v6] (.long (u + w) :: st) I J Q := rS f185_30 rfl
theorem x185_31 : Rn S 185 31 [v0, v1, v2, v3, v4, v5, v6] (.long u :: st) I J Q = Rn S 185 33 [v0, v1, v2, zkl v3, .long u, .null, v6] st I J Q := rL f185_31 rfl rfl
theorem x185_33 : Rn S 185 33 [v0, v1, v2, v3, v4, v5, .int a] st I J Q = Rn S 185 36 [v0, v1, v2, v3, v4, zkl v5, .int (a + 1)] st I J Q := rL f185_33 rfl rfl
theorem x185_36 : Rn S 185 36 [v0, v1, v2, v3, v4, v5, v6] st I J Q = Rn S 185 10 [v0, v1, v2, v3, v4, v5, v6] st I J Q := rB f185_36 rfl rfl rfl
theorem x185_39 : Rn S 185 39 [v0, v1, v2, v3, v4, v5, v6] st I J Q = Rn S 185 40 [v0, v1, v2, v3, v4, v5, v6] (.int 0 :: st) I J Q := rS f185_39 rfl
theorem x185_40 : Rn S 185 40 [v0, v1, v2, v3, v4, v5, v6] (.int a :: st) I J Q = Rn S 185 42 [v0, v1, v2, v3, v4, zkl v5, .int a] st I J Q := rL f185_40 rfl rfl
theorem h185_42 : Rn S 185 42 [v0, v1, v2, v3, v4, v5, .int a] st I J Q = Rn S 185 44 [v0, v1, v2, v3, v4, v5, .int a] (.int a :: st) I J Q := rL f185_42 rfl rfl
theorem x185_44 : Rn S 185 44 [v0, v1, v2, v3, v4, v5, v6] st I J Q = Rn S 185 45 [v0, v1, v2, v3, v4, v5, v6] (.int 3 :: st) I J Q := rS f185_44 rfl
theorem x185_45 : Rn S 185 45 [v0, v1, v2, v3, v4, v5, v6] (.int b :: .int a :: st) I J Q = if a < b then Rn S 185 48 [v0, v1, v2, v3, v4, v5, v6] st I J Q else Rn S 185 71 [v0, v1, v2, v3, v4, v5, v6] st I J Q := rCge f185_45 rfl rfl
theorem x185_48 : Rn S 185 48 [v0, v1, v2, v3, v4, v5, v6] st I J Q = Rn S 185 51 [v0, v1, v2, v3, v4, v5, v6] (.long 31 :: st) I J Q := rS f185_48 rfl
theorem x185_51 : Rn S 185 51 [v0, v1, v2, v3, .long u, v5, v6] st I J Q = Rn S 185 53 [v0, v1, v2, v3, .long u, v5, v6] (.long u :: st) I J Q := rL f185_51 rfl rfl
theorem x185_53 : Rn S 185 53 [v0, v1, v2, v3, v4, v5, v6] (.long w :: .long u :: st) I J Q = Rn S 185 54 [v0, v1, v2, v3, v4, v5, v6] (.long (u * w) :: st) I J Q := rS f185_53 rfl
theorem x185_54 : Rn S 185 54 [.ref q, v1, v2, v3, v4, v5, v6] st I J Q = Rn S 185 55 [.ref q, v1, v2, v3, v4, v5, v6] (.ref q :: st) I J Q := rL f185_54 rfl rfl
theorem x185_55 : Rn S 185 55 [v0, v1, v2, .int a, v4, v5, v6] st I J Q = Rn S 185 56 [v0, v1, v2, .int a, v4, v5, v6] (.int a :: st) I J Q := rL f185_55 rfl rfl
theorem x185_56 : Rn S 185 56 [v0, v1, v2, v3, v4, v5, .int a] st I J Q = Rn S 185 58 [v0, v1, v2, v3, v4, v5, .int a] (.int a :: st) I J Q := rL f185_56 rfl rfl
theorem x185_58 : Rn S 185 58 [v0, v1, v2, v3, v4, v5, v6] (.int a1 :: .int a0 :: .ref q :: st) I J Q = ((zcls S q = 6 ∧ zcs st ≤ 8) ∧ Rn S 142 0 [.ref q, .int a0, .int a1] [] I J (fun v I' J' => Rn S 185 61 [v0, v1, v2, v3, v4, v5, v6] (v.toList ++ st) I' J' Q)) := rCV (As := [.int a0, .int a1]) f185_58 rfl rfl rfl rfl (Nat.le_of_ble_eq_true rfl)
theorem x185_61 : Rn S 185 61 [v0, v1, v2, v3, v4, v5, v6] (.int a :: st) I J Q = Rn S 185 62 [v0, v1, v2, v3, v4, v5, v6] (.long a.toInt64 :: st) I J Q := rS f185_61 rfl
theorem x185_62 : Rn S 185 62 [v0, v1, v2, v3, v4, v5, v6] (.long w :: .long u :: st) I J Q = Rn S 185 63 [v0, v1, v2, v3, v4, v5, v6] (.long (u + w) :: st) I J Q := rS f185_62 rfl
theorem x185_63 : Rn S 185 63 [v0, v1, v2, v3, v4, v5, v6] (.long u :: st) I J Q = Rn S 185 65 [v0, v1, v2, zkl v3, .long u, .null, v6] st I J Q := rL f185_63 rfl rfl
theorem x185_65 : Rn S 185 65 [v0, v1, v2, v3, v4, v5, .int a] st I J Q = Rn S 185 68 [v0, v1, v2, v3, v4, zkl v5, .int (a + 1)] st I J Q := rL f185_65 rfl rfl
theorem x185_68 : Rn S 185 68 [v0, v1, v2, v3, v4, v5, v6] st I J Q = Rn S 185 42 [v0, v1, v2, v3, v4, v5, v6] st I J Q := rB f185_68 rfl rfl rfl
theorem x185_71 : Rn S 185 71 [v0, v1, v2, v3, v4, v5, v6] st I J Q = Rn S 185 74 [v0, v1, v2, v3, v4, v5, v6] (.long 31 :: st) I J Q := rS f185_71 rfl
theorem x185_74 : Rn S 185 74 [v0, v1, v2, v3, .long u, v5, v6] st I J Q = Rn S 185 76 [v0, v1, v2, v3, .long u, v5, v6] (.long u :: st) I J Q := rL f185_74 rfl rfl
theorem x185_76 : Rn S 185 76 [v0, v1, v2, v3, v4, v5, v6] (.long w :: .long u :: st) I J Q = Rn S 185 77 [v0, v1, v2, v3, v4, v5, v6] (.long (u * w) :: st) I J Q := rS f185_76 rfl
theorem x185_77 : Rn S 185 77 [.ref q, v1, v2, v3, v4, v5, v6] st I J Q = Rn S 185 78 [.ref q, v1, v2, v3, v4, v5, v6] (.ref q :: st) I J Q := rL f185_77 rfl rfl
theorem x185_78 : Rn S 185 78 [v0, v1, v2, .int a, v4, v5, v6] st I J Q = Rn S 185 79 [v0, v1, v2, .int a, v4, v5, v6] (.int a :: st) I J Q := rL f185_78 rfl rfl
theorem x185_79 : Rn S 185 79 [v0, v1, v2, v3, v4, v5, v6] (.int a0 :: .ref q :: st) I J Q = ((zcls S q = 6 ∧ zcs st ≤ 8) ∧ Rn S 173 0 [.ref q, .int a0, .null, .null, .null] [] I J (fun v I' J' => Rn S 185 82 [v0, v1, v2, v3, v4, v5, v6] (v.toList ++ st) I' J' Q)) := rCV (As := [.int a0]) f185_79 rfl rfl rfl rfl (Nat.le_of_ble_eq_true rfl)
theorem x185_82 : Rn S 185 82 [v0, v1, v2, v3, v4, v5, v6] (.int a :: st) I J Q = Rn S 185 83 [v0, v1, v2, v3, v4, v5, v6] (.long a.toInt64 :: st) I J Q := rS f185_82 rfl
theorem x185_83 : Rn S 185 83 [v0, v1, v2, v3, v4, v5, v6] (.long w :: .long u :: st) I J Q = Rn S 185 84 [v0, v1, v2, v3, v4, v5, v6] (.long (u + w) :: st) I J Q := rS f185_83 rfl
theorem x185_84 : Rn S 185 84 [v0, v1, v2, v3, v4, v5, v6] (.long u :: st) I J Q = Rn S 185 86 [v0, v1, v2, zkl v3, .long u, .null, v6] st I J Q := rL f185_84 rfl rfl
theorem x185_86 : Rn S 185 86 [v0, v1, v2, v3, v4, v5, v6] st I J Q = Rn S 185 89 [v0, v1, v2, v3, v4, v5, v6] (.long 31 :: st) I J Q := rS f185_86 rfl
theorem x185_89 : Rn S 185 89 [v0, v1, v2, v3, .long u, v5, v6] st I J Q = Rn S 185 91 [v0, v1, v2, v3, .long u, v5, v6] (.long u :: st) I J Q := rL f185_89 rfl rfl
theorem x185_91 : Rn S 185 91 [v0, v1, v2, v3, v4, v5, v6] (.long w :: .long u :: st) I J Q = Rn S 185 92 [v0, v1, v2, v3, v4, v5, v6] (.long (u * w) :: st) I J Q := rS f185_91 rfl
theorem x185_92 : Rn S 185 92 [.ref q, v1, v2, v3, v4, v5, v6] st I J Q = Rn S 185 93 [.ref q, v1, v2, v3, v4, v5, v6] (.ref q :: st) I J Q := rL f185_92 rfl rfl
theorem x185_93 : Rn S 185 93 [v0, v1, v2, v3, v4, v5, v6] st I J Q = Rn S 185 94 [v0, v1, v2, v3, v4, v5, v6] (.int 5 :: st) I J Q := rS f185_93 rfl
theorem x185_94 : Rn S 185 94 [v0, v1, v2, .int a, v4, v5, v6] st I J Q = Rn S 185 95 [v0, v1, v2, .int a, v4, v5, v6] (.int a :: st) I J Q := rL f185_94 rfl rfl
theorem x185_95 : Rn S 185 95 [v0, v1, v2, v3, v4, v5, v6] st I J Q = Rn S 185 96 [v0, v1, v2, v3, v4, v5, v6] (.int 0 :: st) I J Q := rS f185_95 rfl
theorem x185_96 : Rn S 185 96 [v0, v1, v2, v3, v4, v5, v6] (.int a2 :: .int a1 :: .int a0 :: .ref q :: st) I J Q = ((zcls S q = 6 ∧ zcs st ≤ 8) ∧ Rn S 178 0 [.ref q, .int a0, .int a1, .int a2, .null, .null, .null, .null, .null, .null] [] I J (fun v I' J' => Rn S 185 99 [v0, v1, v2, v3, v4, v5, v6] (v.toList ++ st) I' J' Q)) := rCV (As := [.int a0, .int a1, .int a2]) f185_96 rfl rfl rfl rfl (Nat.le_of_ble_eq_true rfl)
theorem x185_99 : Rn S 185 99 [v0, v1, v2, v3, v4, v5, v6] (.long w :: .long u :: st) I J Q = Rn S 185 100 [v0, v1, v2, v3, v4, v5, v6] (.long (u + w) :: st) I J Q := rS f185_99 rfl
theorem x185_100 : Rn S 185 100 [v0, v1, v2, v3, v4, v5, v6] (.long u :: st) I J Q = Rn S 185 102 [v0, v1, v2, zkl v3, .long u, .null, v6] st I J Q := rL f185_100 rfl rfl
theorem x185_102 : Rn S 185 102 [v0, v1, v2, v3, v4, v5, v6] st I J Q = Rn S 185 105 [v0, v1, v2, v3, v4, v5, v6] (.long 31 :: st) I J Q := rS f185_102 rfl
theorem x185_105 : Rn S 185 105 [v0, v1, v2, v3, .long u, v5, v6] st I J Q = Rn S 185 107 [v0, v1, v2, v3, .long u, v5, v6] (.long u :: st) I J Q := rL f185_105 rfl rfl
theorem x185_107 : Rn S 185 107 [v0, v1, v2, v3, v4, v5, v6] (.long w :: .long u :: st) I J Q = Rn S 185 108 [v0, v1, v2, v3, v4, v5, v6] (.long (u * w) :: st) I J Q := rS f185_107 rfl
theorem x185_108 : Rn S 185 108 [.ref q, v1, v2, v3, v4, v5, v6] st I J Q = Rn S 185 109 [.ref q, v1, v2, v3, v4, v5, v6] (.ref q :: st) I J Q := rL f185_108 rfl rfl
theorem x185_109 : Rn S 185 109 [v0, v1, v2, v3, v4, v5, v6] st I J Q = Rn S 185 110 [v0, v1, v2, v3, v4, v5, v6] (.int 5 :: st) I J Q := rS f185_109 rfl
theorem x185_110 : Rn S 185 110 [v0, v1, v2, .int a, v4, v5, v6] st I J Q = Rn S 185 111 [v0, v1, v2, .int a, v4, v5, v6] (.int a :: st) I J Q := rL f185_110 rfl rfl
theorem x185_111 : Rn S 185 111 [v0, v1, v2, v3, v4, v5, v6] st I J Q = Rn S 185 112 [v0, v1, v2, v3, v4, v5, v6] (.int 1 :: st) I J Q := rS f185_111 rfl
theorem x185_112 : Rn S 185 112 [v0, v1, v2, v3, v4, v5, v6] (.int a2 :: .int a1 :: .int a0 :: .ref q :: st) I J Q = ((zcls S q = 6 ∧ zcs st ≤ 8) ∧ Rn S 178 0 [.ref q, .int a0, .int a1, .int a2, .null, .null, .null, .null, .null, .null] [] I J (fun v I' J' => Rn S 185 115 [v0, v1, v2, v3, v4, v5, v6] (v.toList ++ st) I' J' Q)) := rCV (As := [.int a0, .int a1, .int a2]) f185_112 rfl rfl rfl rfl (Nat.le_of_ble_eq_true rfl)
theorem x185_115 : Rn S 185 115 [v0, v1, v2, v3, v4, v5, v6] (.long w :: .long u :: st) I J Q = Rn S 185 116 [v0, v1, v2, v3, v4, v5, v6] (.long (u + w) :: st) I J Q := rS f185_115 rfl
theorem x185_116 : Rn S 185 116 [v0, v1, v2, v3, v4, v5, v6] [.long u] I J Q = Q (some (.long u)) I J := rR f185_116 rfl rfl rfl rfl rfl
/-! X6.tellsReader: 186 -/
theorem B186 : zB 186 = cX6_tellsReader := rfl
theorem f186_0 : zft 186 0 = some (.aload_n 0, 1) := fet B186 (by decide +kernel) (Or.inr rfl)
theorem f186_1 : zft 186 1 = some (.invokevirtual 202, 3) := fet B186 (by decide +kernel) (Or.inr rfl)
theorem f186_4 : zft 186 4 = some (.ldc2_w 304, 3) := fet B186 (by decide +kernel) (Or.inr rfl)
theorem f186_7 : zft 186 7 = some (.lload_n 1, 1) := fet B186 (by decide +kernel) (Or.inr rfl)
theorem f186_8 : zft 186 8 = some (.lmul, 1) := fet B186 (by decide +kernel) (Or.inr rfl)
theorem f186_9 : zft 186 9 = some (.aload_n 0, 1) := fet B186 (by decide +kernel) (Or.inr rfl)
theorem f186_10 : zft 186 10 = some (.getfield 31, 3) := fet B186 (by decide +kernel) (Or.inr rfl)
theorem f186_13 : zft 186 13 = some (.iconst 2, 1) := fet B186 (by decide +kernel) (Or.inr rfl)
theorem f186_14 : zft 186 14 = some (.iload_n 3, 1) := fet B186 (by decide +kernel) (Or.inr rfl)
theorem f186_15 : zft 186 15 = some (.imul, 1) := fet B186 (by decide +kernel) (Or.inr rfl)
theorem f186_16 : zft 186 16 = some (.iaload, 1) := fet B186 (by decide +kernel) (Or.inr rfl)
theorem f186_17 : zft 186 17 = some (.i2l, 1) := fet B186 (by decide +kernel) (Or.inr rfl)
theorem f186_18 : zft 186 18 = some (.ladd, 1) := fet B186 (by decide +kernel) (Or.inr rfl)
theorem f186_19 : zft 186 19 = some (.lstore 4, 2) := fet B186 (by decide +kernel) (Or.inr rfl)
theorem f186_21 : zft 186 21 = some (.ldc2_w 304, 3) := fet B186 (by decide +kernel) (Or.inr rfl)
theorem f186_24 : zft 186 24 = some (.lload 4, 2) := fet B186 (by decide +kernel) (Or.inr rfl)
theorem f186_26 : zft 186 26 = some (.lmul, 1) := fet B186 (by decide +kernel) (Or.inr rfl)
theorem f186_27 : zft 186 27 = some (.aload_n 0, 1) := fet B186 (by decide +kernel) (Or.inr rfl)
theorem f186_28 : zft 186 28 = some (.getfield 31, 3) := fet B186 (by decide +kernel) (Or.inr rfl)
theorem f186_31 : zft 186 31 = some (.iconst 2, 1) := fet B186 (by decide +kernel) (Or.inr rfl)
theorem f186_32 : zft 186 32 = some (.iload_n 3, 1) := fet B186 (by decide +kernel) (Or.inr rfl)
theorem f186_33 : zft 186 33 = some (.imul, 1) := fet B186 (by decide +kernel) (Or.inr rfl)
theorem f186_34 : zft 186 34 = some (.iconst 1, 1) := fet B186 (by decide +kernel) (Or.inr rfl)
theorem f186_35 : zft 186 35 = some (.iadd, 1) := fet B186 (by decide +kernel) (Or.inr rfl)
theorem f186_36 : zft 186 36 = some (.iaload, 1) := fet B186 (by decide +kernel) (Or.inr rfl)
theorem f186_37 : zft 186 37 = some (.i2l, 1) := fet B186 (by decide +kernel) (Or.inr rfl)
theorem f186_38 : zft 186 38 = some (.ladd, 1) := fet B186 (by decide +kernel) (Or.inr rfl)
theorem f186_39 : zft 186 39 = some (.lstore 4, 2) := fet B186 (by decide +kernel) (Or.inr rfl)
theorem f186_41 : zft 186 41 = some (.iconst 0, 1) := fet B186 (by decide +kernel) (Or.inr rfl)
theorem f186_42 : zft 186 42 = some (.istore 6, 2) := fet B186 (by decide +kernel) (Or.inr rfl)
theorem f186_44 : zft 186 44 = some (.iload 6, 2) := fet B186 (by decide +kernel) (Or.inr rfl)
theorem f186_46 : zft 186 46 = some (.iconst 4, 1) := fet B186 (by decide +kernel) (Or.inr rfl)
theorem f186_47 : zft 186 47 = some (.if_icmp .ge 26, 3) := fet B186 (by decide +kernel) (Or.inr rfl)
theorem f186_50 : zft 186 50 = some (.ldc2_w 304, 3) := fet B186 (by decide +kernel) (Or.inr rfl)
theorem f186_53 : zft 186 53 = some (.lload 4, 2) := fet B186 (by decide +kernel) (Or.inr rfl)
theorem f186_55 : zft 186 55 = some (.lmul, 1) := fet B186 (by decide +kernel) (Or.inr rfl)
theorem f186_56 : zft 186 56 = some (.aload_n 0, 1) := fet B186 (by decide +kernel) (Or.inr rfl)
theorem f186_57 : zft 186 57 = some (.iload_n 3, 1) := fet B186 (by decide +kernel) (Or.inr rfl)
theorem f186_58 : zft 186 58 = some (.iload 6, 2) := fet B186 (by decide +kernel) (Or.inr rfl)
theorem f186_60 : zft 186 60 = some (.invokevirtual 211, 3) := fet B186 (by decide +kernel) (Or.inr rfl)
theorem f186_63 : zft 186 63 = some (.i2l, 1) := fet B186 (by decide +kernel) (Or.inr rfl)
theorem f186_64 : zft 186 64 = some (.ladd, 1) := fet B186 (by decide +kernel) (Or.inr rfl)
theorem f186_65 : zft 186 65 = some (.lstore 4, 2) := fet B186 (by decide +kernel) (Or.inr rfl)
theorem f186_67 : zft 186 67 = some (.iinc 6 1, 3) := fet B186 (by decide +kernel) (Or.inr rfl)
theorem f186_70 : zft 186 70 = some (.goto (-26), 3) := fet B186 (by decide +kernel) (Or.inr rfl)
theorem f186_73 : zft 186 73 = some (.ldc2_w 304, 3) := fet B186 (by decide +kernel) (Or.inr rfl)
theorem f186_76 : zft 186 76 = some (.lload 4, 2) := fet B186 (by decide +kernel) (Or.inr rfl)
theorem f186_78 : zft 186 78 = some (.lmul, 1) := fet B186 (by decide +kernel) (Or.inr rfl)
theorem f186_79 : zft 186 79 = some (.aload_n 0, 1) := fet B186 (by decide +kernel) (Or.inr rfl)
theorem f186_80 : zft 186 80 = some (.iload_n 3, 1) := fet B186 (by decide +kernel) (Or.inr rfl)
theorem f186_81 : zft 186 81 = some (.invokevirtual 268, 3) := fet B186 (by decide +kernel) (Or.inr rfl)
theorem f186_84 : zft 186 84 = some (.i2l, 1) := fet B186 (by decide +kernel) (Or.inr rfl)
theorem f186_85 : zft 186 85 = some (.ladd, 1) := fet B186 (by decide +kernel) (Or.inr rfl)
theorem f186_86 : zft 186 86 = some (.lstore 4, 2) := fet B186 (by decide +kernel) (Or.inr rfl)
theorem f186_88 : zft 186 88 = some (.ldc2_w 304, 3) := fet B186 (by decide +kernel) (Or.inr rfl)
theorem f186_91 : zft 186 91 = some (.lload 4, 2) := fet B186 (by decide +kernel) (Or.inr rfl)
theorem f186_93 : zft 186 93 = some (.lmul, 1) := fet B186 (by decide +kernel) (Or.inr rfl)
theorem f186_94 : zft 186 94 = some (.aload_n 0, 1) := fet B186 (by decide +kernel) (Or.inr rfl)
theorem f186_95 : zft 186 95 = some (.iload_n 3, 1) := fet B186 (by decide +kernel) (Or.inr rfl)
theorem f186_96 : zft 186 96 = some (.invokevirtual 277, 3) := fet B186 (by decide +kernel) (Or.inr rfl)
theorem f186_99 : zft 186 99 = some (.i2l, 1) := fet B186 (by decide +kernel) (Or.inr rfl)
theorem f186_100 : zft 186 100 = some (.ladd, 1) := fet B186 (by decide +kernel) (Or.inr rfl)
theorem f186_101 : zft 186 101 = some (.lreturn, 1) := fet B186 (by decide +kernel) (Or.inr rfl)
theorem x186_0 : Rn S 186 0 [.ref q, v1, v2, v3, v4, v5, v6] st I J Q = Rn S 186 1 [.ref q, v1, v2, v3, v4, v5, v6] (.ref q :: st) I J Q := rL f186_0 rfl rfl
theorem x186_1 : Rn S 186 1 [v0, v1, v2, v3, v4, v5, v6] (.ref q :: st) I J Q = ((zcls S q = 6 ∧ zcs st ≤ 8) ∧ Rn S 140 0 [.ref q, .null] [] I J (fun v I' J' => Rn S 186 4 [v0, v1, v2, v3, v4, v5, v6] (v.toList ++ st) I' J' Q)) := rCV (As := []) f186_1 rfl rfl rfl rfl (Nat.le_of_ble_eq_true rfl)
theorem x186_4 : Rn S 186 4 [v0, v1, v2, v3, v4, v5, v6] st I J Q = Rn S 186 7 [v0, v1, v2, v3, v4, v5, v6] (.long 31 :: st) I J Q := rS f186_4 rfl
theorem x186_7 : Rn S 186 7 [v0, .long u, v2, v3, v4, v5, v6] st I J Q = Rn S 186 8 [v0, .long u, v2, v3, v4, v5, v6] (.long u :: st) I J Q := rL f186_7 rfl rfl
theorem x186_8 : Rn S 186 8 [v0, v1, v2, v3, v4, v5, v6] (.long w :: .long u :: st) I J Q = Rn S 186 9 [v0, v1, v2, v3, v4, v5, v6] (.long (u * w) :: st) I J Q := rS f186_8 rfl
theorem x186_9 : Rn S 186 9 [.ref q, v1, v2, v3, v4, v5, v6] st I J Q = Rn S 186 10 [.ref q, v1, v2, v3, v4, v5, v6] (.ref q :: st) I J Q := rL f186_9 rfl rfl
theorem x186_10_65 : Rn (zG xl) 186 10 [v0, v1, v2, v3, v4, v5, v6] (.ref 65 :: st) I J Q = Rn (zG xl) 186 13 [v0, v1, v2, v3, v4, v5, v6] (.ref 73 :: st) I J Q := (rGf f186_10 rfl).trans (tr_and rfl)
theorem x186_13 : Rn S 186 13 [v0, v1, v2, v3, v4, v5, v6] st I J Q = Rn S 186 14 [v0, v1, v2, v3, v4, v5, v6] (.int 2 :: st) I J Q := rS f186_13 rfl
theorem x186_14 : Rn S 186 14 [v0, v1, v2, .int a, v4, v5, v6] st I J Q = Rn S 186 15 [v0, v1, v2, .int a, v4, v5, v6] (.int a :: st) I J Q := rL f186_14 rfl rfl
theorem x186_15 : Rn S 186 15 [v0, v1, v2, v3, v4, v5, v6] (.int b :: .int a :: st) I J Q = Rn S 186 16 [v0, v1, v2, v3, v4, v5, v6] (.int (a * b) :: st) I J Q := rS f186_15 rfl
theorem x186_16 : Rn S 186 16 [v0, v1, v2, v3, v4, v5, v6] (.int a :: .ref q :: st) I J Q = (zai S q a ∧ Rn S 186 17 [v0, v1, v2, v3, v4, v5, v6] (.int (I q a.toNatClampNeg) :: st) I J Q) := rIal f186_16
theorem x186_17 : Rn S 186 17 [v0, v1, v2, v3, v4, v5, v6] (.int a :: st) I J Q = Rn S 186 18 [v0, v1, v2, v3, v4, v5, v6] (.long a.toInt64 :: st) I J Q := rS f186_17 rfl
theorem x186_18 : Rn S 186 18 [v0, v1, v2, v3, v4, v5, v6] (.long w :: .long u :: st) I J Q = Rn S 186 19 [v0, v1, v2, v3, v4, v5, v6] (.long (u + w) :: st) I J Q := rS f186_18 rfl
theorem x186_19 : Rn S 186 19 [v0, v1, v2, v3, v4, v5, v6] (.long u :: st) I J Q = Rn S 186 21 [v0, v1, v2, zkl v3, .long u, .null, v6] st I J Q := rL f186_19 rfl rfl
theorem x186_21 : Rn S 186 21 [v0, v1, v2, v3, v4, v5, v6] st I J Q = Rn S 186 24 [v0, v1, v2, v3, v4, v5, v6] (.long 31 :: st) I J Q := rS f186_21 rfl
theorem x186_24 : Rn S 186 24 [v0, v1, v2, v3, .long u, v5, v6] st I J Q = Rn S 186 26 [v0, v1, v2, v3, .long u, v5, v6] (.long u :: st) I J Q := rL f186_24 rfl rfl
theorem x186_26 : Rn S 186 26 [v0, v1, v2, v3, v4, v5, v6] (.long w :: .long u :: st) I J Q = Rn S 186 27 [v0, v1, v2, v3, v4, v5, v6] (.long (u * w) :: st) I J Q := rS f186_26 rfl
theorem x186_27 : Rn S 186 27 [.ref q, v1, v2, v3, v4, v5, v6] st I J Q = Rn S 186 28 [.ref q, v1, v2, v3, v4, v5, v6] (.ref q :: st) I J Q := rL f186_27 rfl rfl
theorem x186_28_65 : Rn (zG xl) 186 28 [v0, v1, v2, v3, v4, v5, v6] (.ref 65 :: st) I J Q = Rn (zG xl) 186 31 [v0, v1, v2, v3, v4, v5, v6] (.ref 73 :: st) I J Q := (rGf f186_28 rfl).trans (tr_and rfl)
theorem x186_31 : Rn S 186 31 [v0, v1, v2, v3, v4, v5, v6] st I J Q = Rn S 186 32 [v0, v1, v2, v3, v4, v5, v6] (.int 2 :: st) I J Q := rS f186_31 rfl
theorem x186_32 : Rn S 186 32 [v0, v1, v2, .int a, v4, v5, v6] st I J Q = Rn S 186 33 [v0, v1, v2, .int a, v4, v5, v6] (.int a :: st) I J Q := rL f186_32 rfl rfl
theorem x186_33 : Rn S 186 33 [v0, v1, v2, v3, v4, v5, v6] (.int b :: .int a :: st) I J Q = Rn S 186 34 [v0, v1, v2, v3, v4, v5, v6] (.int (a * b) :: st) I J Q := rS f186_33 rfl
theorem x186_34 : Rn S 186 34 [v0, v1, v2, v3, v4, v5, v6] st I J Q = Rn S 186 35 [v0, v1, v2, v3, v4, v5, v6] (.int 1 :: st) I J Q := rS f186_34 rfl
theorem x186_35 : Rn S 186 35 [v0, v1, v2, v3, v4, v5, v6] (.int b :: .int a :: st) I J Q = Rn S 186 36 [v0, v1, v2, v3, v4, v5, v6] (.int (a + b) :: st) I J Q := rS f186_35 rfl
theorem x186_36 : Rn S 186 36 [v0, v1, v2, v3, v4, v5, v6] (.int a :: .ref q :: st) I J Q = (zai S q a ∧ Rn S 186 37 [v0, v1, v2, v3, v4, v5, v6] (.int (I q a.toNatClampNeg) :: st) I J Q) := rIal f186_36
theorem x186_37 : Rn S 186 37 [v0, v1, v2, v3, v4, v5, v6] (.int a :: st) I J Q = Rn S 186 38 [v0, v1, v2, v3, v4, v5, v6] (.long a.toInt64 :: st) I J Q := rS f186_37 rfl
theorem x186_38 : Rn S 186 38 [v0, v1, v2, v3, v4, v5, v6] (.long w :: .long u :: st) I J Q = Rn S 186 39 [v0, v1, v2, v3, v4, v5, v6] (.long (u + w) :: st) I J Q := rS f186_38 rfl
theorem x186_39 : Rn S 186 39 [v0, v1, v2, v3, v4, v5, v6] (.long u :: st) I J Q = Rn S 186 41 [v0, v1, v2, zkl v3, .long u, .null, v6] st I J Q := rL f186_39 rfl rfl
theorem x186_41 : Rn S 186 41 [v0, v1, v2, v3, v4, v5, v6] st I J Q = Rn S 186 42 [v0, v1, v2, v3, v4, v5, v6] (.int 0 :: st) I J Q := rS f186_41 rfl
theorem x186_42 : Rn S 186 42 [v0, v1, v2, v3, v4, v5, v6] (.int a :: st) I J Q = Rn S 186 44 [v0, v1, v2, v3, v4, zkl v5, .int a] st I J Q := rL f186_42 rfl rfl
theorem h186_44 : Rn S 186 44 [v0, v1, v2, v3, v4, v5, .int a] st I J Q = Rn S 186 46 [v0, v1, v2, v3, v4, v5, .int a] (.int a :: st) I J Q := rL f186_44 rfl rfl
theorem x186_46 : Rn S 186 46 [v0, v1, v2, v3, v4, v5, v6] st I J Q = Rn S 186 47 [v0, v1, v2, v3, v4, v5, v6] (.int 4 :: st) I J Q := rS f186_46 rfl
theorem x186_47 : Rn S 186 47 [v0, v1, v2, v3, v4, v5, v6] (.int b :: .int a :: st) I J Q = if a < b then Rn S 186 50 [v0, v1, v2, v3, v4, v5, v6] st I J Q else Rn S 186 73 [v0, v1, v2, v3, v4, v5, v6] st I J Q := rCge f186_47 rfl rfl
theorem x186_50 : Rn S 186 50 [v0, v1, v2, v3, v4, v5, v6] st I J Q = Rn S 186 53 [v0, v1, v2, v3, v4, v5, v6] (.long 31 :: st) I J Q := rS f186_50 rfl
theorem x186_53 : Rn S 186 53 [v0, v1, v2, v3, .long u, v5, v6] st I J Q = Rn S 186 55 [v0, v1, v2, v3, .long u, v5, v6] (.long u :: st) I J Q := rL f186_53 rfl rfl
theorem x186_55 : Rn S 186 55 [v0, v1, v2, v3, v4, v5, v6] (.long w :: .long u :: st) I J Q = Rn S 186 56 [v0, v1, v2, v3, v4, v5, v6] (.long (u * w) :: st) I J Q := rS f186_55 rfl
theorem x186_56 : Rn S 186 56 [.ref q, v1, v2, v3, v4, v5, v6] st I J Q = Rn S 186 57 [.ref q, v1, v2, v3, v4, v5, v6] (.ref q :: st) I J Q := rL f186_56 rfl rfl
theorem x186_57 : Rn S 186 57 [v0, v1, v2, .int a, v4, v5, v6] st I J Q = Rn S 186 58 [v0, v1, v2, .int a, v4, v5, v6] (.int a :: st) I J Q := rL f186_57 rfl rfl
theorem x186_58 : Rn S 186 58 [v0, v1, v2, v3, v4, v5, .int a] st I J Q = Rn S 186 60 [v0, v1, v2, v3, v4, v5, .int a] (.int a :: st) I J Q := rL f186_58 rfl rfl
theorem x186_60 : Rn S 186 60 [v0, v1, v2, v3, v4, v5, v6] (.int a1 :: .int a0 :: .ref q :: st) I J Q = ((zcls S q = 6 ∧ zcs st ≤ 8) ∧ Rn S 144 0 [.ref q, .int a0, .int a1] [] I J (fun v I' J' => Rn S 186 63 [v0, v1, v2, v3, v4, v5, v6] (v.toList ++ st) I' J' Q)) := rCV (As := [.int a0, .int a1]) f186_60 rfl rfl rfl rfl (Nat.le_of_ble_eq_true rfl)
theorem x186_63 : Rn S 186 63 [v0, v1, v2, v3, v4, v5, v6] (.int a :: st) I J Q = Rn S 186 64 [v0, v1, v2, v3, v4, v5, v6] (.long a.toInt64 :: st) I J Q := rS f186_63 rfl
theorem x186_64 : Rn S 186 64 [v0, v1, v2, v3, v4, v5, v6] (.long w :: .long u :: st) I J Q = Rn S 186 65 [v0, v1, v2, v3, v4, v5, v6] (.long (u + w) :: st) I J Q := rS f186_64 rfl
theorem x186_65 : Rn S 186 65 [v0, v1, v2, v3, v4, v5, v6] (.long u :: st) I J Q = Rn S 186 67 [v0, v1, v2, zkl v3, .long u, .null, v6] st I J Q := rL f186_65 rfl rfl
theorem x186_67 : Rn S 186 67 [v0, v1, v2, v3, v4, v5, .int a] st I J Q = Rn S 186 70 [v0, v1, v2, v3, v4, zkl v5, .int (a + 1)] st I J Q := rL f186_67 rfl rfl
theorem x186_70 : Rn S 186 70 [v0, v1, v2, v3, v4, v5, v6] st I J Q = Rn S 186 44 [v0, v1, v2, v3, v4, v5, v6] st I J Q := rB f186_70 rfl rfl rfl
theorem x186_73 : Rn S 186 73 [v0, v1, v2, v3, v4, v5, v6] st I J Q = Rn S 186 76 [v0, v1, v2, v3, v4, v5, v6] (.long 31 :: st) I J Q := rS f186_73 rfl
theorem x186_76 : Rn S 186 76 [v0, v1, v2, v3, .long u, v5, v6] st I J Q = Rn S 186 78 [v0, v1, v2, v3, .long u, v5, v6] (.long u :: st) I J Q := rL f186_76 rfl rfl
theorem x186_78 : Rn S 186 78 [v0, v1, v2, v3, v4, v5, v6] (.long w :: .long u :: st) I J Q = Rn S 186 79 [v0, v1, v2, v3, v4, v5, v6] (.long (u * w) :: st) I J Q := rS f186_78 rfl
theorem x186_79 : Rn S 186 79 [.ref q, v1, v2, v3, v4, v5, v6] st I J Q = Rn S 186 80 [.ref q, v1, v2, v3, v4, v5, v6] (.ref q :: st) I J Q := rL f186_79 rfl rfl
theorem x186_80 : Rn S 186 80 [v0, v1, v2, .int a, v4, v5, v6] st I J Q = Rn S 186 81 [v0, v1, v2, .int a, v4, v5, v6] (.int a :: st) I J Q := rL f186_80 rfl rfl
theorem x186_81 : Rn S 186 81 [v0, v1, v2, v3, v4, v5, v6] (.int a0 :: .ref q :: st) I J Q = ((zcls S q = 6 ∧ zcs st ≤ 8) ∧ Rn S 171 0 [.ref q, .int a0, .null, .null, .null, .null] [] I J (fun v I' J' => Rn S 186 84 [v0, v1, v2, v3, v4, v5, v6] (v.toList ++ st) I' J' Q)) := rCV (As := [.int a0]) f186_81 rfl rfl rfl rfl (Nat.le_of_ble_eq_true rfl)
theorem x186_84 : Rn S 186 84 [v0, v1, v2, v3, v4, v5, v6] (.int a :: st) I J Q = Rn S 186 85 [v0, v1, v2, v3, v4, v5, v6] (.long a.toInt64 :: st) I J Q := rS f186_84 rfl
theorem x186_85 : Rn S 186 85 [v0, v1, v2, v3, v4, v5, v6] (.long w :: .long u :: st) I J Q = Rn S 186 86 [v0, v1, v2, v3, v4, v5, v6] (.long (u + w) :: st) I J Q := rS f186_85 rfl
theorem x186_86 : Rn S 186 86 [v0, v1, v2, v3, v4, v5, v6] (.long u :: st) I J Q = Rn S 186 88 [v0, v1, v2, zkl v3, .long u, .null, v6] st I J Q := rL f186_86 rfl rfl
theorem x186_88 : Rn S 186 88 [v0, v1, v2, v3, v4, v5, v6] st I J Q = Rn S 186 91 [v0, v1, v2, v3, v4, v5, v6] (.long 31 :: st) I J Q := rS f186_88 rfl
theorem x186_91 : Rn S 186 91 [v0, v1, v2, v3, .long u, v5, v6] st I J Q = Rn S 186 93 [v0, v1, v2, v3, .long u, v5, v6] (.long u :: st) I J Q := rL f186_91 rfl rfl
theorem x186_93 : Rn S 186 93 [v0, v1, v2, v3, v4, v5, v6] (.long w :: .long u :: st) I J Q = Rn S 186 94 [v0, v1, v2, v3, v4, v5, v6] (.long (u * w) :: st) I J Q := rS f186_93 rfl
theorem x186_94 : Rn S 186 94 [.ref q, v1, v2, v3, v4, v5, v6] st I J Q = Rn S 186 95 [.ref q, v1, v2, v3, v4, v5, v6] (.ref q :: st) I J Q := rL f186_94 rfl rfl
theorem x186_95 : Rn S 186 95 [v0, v1, v2, .int a, v4, v5, v6] st I J Q = Rn S 186 96 [v0, v1, v2, .int a, v4, v5, v6] (.int a :: st) I J Q := rL f186_95 rfl rfl
theorem x186_96 : Rn S 186 96 [v0, v1, v2, v3, v4, v5, v6] (.int a0 :: .ref q :: st) I J Q = ((zcls S q = 6 ∧ zcs st ≤ 8) ∧ Rn S 176 0 [.ref q, .int a0, .null, .null, .null] [] I J (fun v I' J' => Rn S 186 99 [v0, v1, v2, v3, v4, v5, v6] (v.toList ++ st) I' J' Q)) := rCV (As := [.int a0]) f186_96 rfl rfl rfl rfl (Nat.le_of_ble_eq_true rfl)
theorem x186_99 : Rn S 186 99 [v0, v1, v2, v3, v4, v5, v6] (.int a :: st) I J Q = Rn S 186 100 [v0, v1, v2, v3, v4, v5, v6] (.long a.toInt64 :: st) I J Q := rS f186_99 rfl
theorem x186_100 : Rn S 186 100 [v0, v1, v2, v3, v4, v5, v6] (.long w :: .long u :: st) I J Q = Rn S 186 101 [v0, v1, v2, v3, v4, v5, v6] (.long (u + w) :: st) I J Q := rS f186_100 rfl
theorem x186_101 : Rn S 186 101 [v0, v1, v2, v3, v4, v5, v6] [.long u] I J Q = Q (some (.long u)) I J := rR f186_101 rfl rfl rfl rfl rfl
/-! X6.digest: 187 -/
theorem B187 : zB 187 = cX6_digest := rfl
theorem f187_0 : zft 187 0 = some (.ldc2_w 306, 3) := fet B187 (by decide +kernel) (Or.inr rfl)
theorem f187_3 : zft 187 3 = some (.lstore_n 1, 1) := fet B187 (by decide +kernel) (Or.inr rfl)
theorem f187_4 : zft 187 4 = some (.iconst 0, 1) := fet B187 (by decide +kernel) (Or.inr rfl)
theorem f187_5 : zft 187 5 = some (.istore_n 3, 1) := fet B187 (by decide +kernel) (Or.inr rfl)
theorem f187_6 : zft 187 6 = some (.iload_n 3, 1) := fet B187 (by decide +kernel) (Or.inr rfl)
theorem f187_7 : zft 187 7 = some (.bipush 8, 2) := fet B187 (by decide +kernel) (Or.inr rfl)
theorem f187_9 : zft 187 9 = some (.if_icmp .ge 22, 3) := fet B187 (by decide +kernel) (Or.inr rfl)
theorem f187_12 : zft 187 12 = some (.ldc2_w 304, 3) := fet B187 (by decide +kernel) (Or.inr rfl)
theorem f187_15 : zft 187 15 = some (.lload_n 1, 1) := fet B187 (by decide +kernel) (Or.inr rfl)
theorem f187_16 : zft 187 16 = some (.lmul, 1) := fet B187 (by decide +kernel) (Or.inr rfl)
theorem f187_17 : zft 187 17 = some (.aload_n 0, 1) := fet B187 (by decide +kernel) (Or.inr rfl)
theorem f187_18 : zft 187 18 = some (.iload_n 3, 1) := fet B187 (by decide +kernel) (Or.inr rfl)
theorem f187_19 : zft 187 19 = some (.invokevirtual 308, 3) := fet B187 (by decide +kernel) (Or.inr rfl)
theorem f187_22 : zft 187 22 = some (.i2l, 1) := fet B187 (by decide +kernel) (Or.inr rfl)
theorem f187_23 : zft 187 23 = some (.ladd, 1) := fet B187 (by decide +kernel) (Or.inr rfl)
theorem f187_24 : zft 187 24 = some (.lstore_n 1, 1) := fet B187 (by decide +kernel) (Or.inr rfl)
theorem f187_25 : zft 187 25 = some (.iinc 3 1, 3) := fet B187 (by decide +kernel) (Or.inr rfl)
theorem f187_28 : zft 187 28 = some (.goto (-22), 3) := fet B187 (by decide +kernel) (Or.inr rfl)
theorem f187_31 : zft 187 31 = some (.iconst 0, 1) := fet B187 (by decide +kernel) (Or.inr rfl)
theorem f187_32 : zft 187 32 = some (.istore_n 3, 1) := fet B187 (by decide +kernel) (Or.inr rfl)
theorem f187_33 : zft 187 33 = some (.iload_n 3, 1) := fet B187 (by decide +kernel) (Or.inr rfl)
theorem f187_34 : zft 187 34 = some (.iconst 3, 1) := fet B187 (by decide +kernel) (Or.inr rfl)
theorem f187_35 : zft 187 35 = some (.if_icmp .ge 22, 3) := fet B187 (by decide +kernel) (Or.inr rfl)
theorem f187_38 : zft 187 38 = some (.ldc2_w 304, 3) := fet B187 (by decide +kernel) (Or.inr rfl)
theorem f187_41 : zft 187 41 = some (.lload_n 1, 1) := fet B187 (by decide +kernel) (Or.inr rfl)
theorem f187_42 : zft 187 42 = some (.lmul, 1) := fet B187 (by decide +kernel) (Or.inr rfl)
theorem f187_43 : zft 187 43 = some (.aload_n 0, 1) := fet B187 (by decide +kernel) (Or.inr rfl)
theorem f187_44 : zft 187 44 = some (.iload_n 3, 1) := fet B187 (by decide +kernel) (Or.inr rfl)
theorem f187_45 : zft 187 45 = some (.invokevirtual 150, 3) := fet B187 (by decide +kernel) (Or.inr rfl)
theorem f187_48 : zft 187 48 = some (.i2l, 1) := fet B187 (by decide +kernel) (Or.inr rfl)
theorem f187_49 : zft 187 49 = some (.ladd, 1) := fet B187 (by decide +kernel) (Or.inr rfl)
theorem f187_50 : zft 187 50 = some (.lstore_n 1, 1) := fet B187 (by decide +kernel) (Or.inr rfl)
theorem f187_51 : zft 187 51 = some (.iinc 3 1, 3) := fet B187 (by decide +kernel) (Or.inr rfl)
theorem f187_54 : zft 187 54 = some (.goto (-21), 3) := fet B187 (by decide +kernel) (Or.inr rfl)
theorem f187_57 : zft 187 57 = some (.aload_n 0, 1) := fet B187 (by decide +kernel) (Or.inr rfl)
theorem f187_58 : zft 187 58 = some (.invokevirtual 202, 3) := fet B187 (by decide +kernel) (Or.inr rfl)
theorem f187_61 : zft 187 61 = some (.iconst 0, 1) := fet B187 (by decide +kernel) (Or.inr rfl)
theorem f187_62 : zft 187 62 = some (.istore_n 3, 1) := fet B187 (by decide +kernel) (Or.inr rfl)
theorem f187_63 : zft 187 63 = some (.iload_n 3, 1) := fet B187 (by decide +kernel) (Or.inr rfl)
theorem f187_64 : zft 187 64 = some (.bipush 16, 2) := fet B187 (by decide +kernel) (Or.inr rfl)
theorem f187_66 : zft 187 66 = some (.if_icmp .ge 37, 3) := fet B187 (by decide +kernel) (Or.inr rfl)
theorem f187_69 : zft 187 69 = some (.ldc2_w 304, 3) := fet B187 (by decide +kernel) (Or.inr rfl)
theorem f187_72 : zft 187 72 = some (.lload_n 1, 1) := fet B187 (by decide +kernel) (Or.inr rfl)
theorem f187_73 : zft 187 73 = some (.lmul, 1) := fet B187 (by decide +kernel) (Or.inr rfl)
theorem f187_74 : zft 187 74 = some (.aload_n 0, 1) := fet B187 (by decide +kernel) (Or.inr rfl)
theorem f187_75 : zft 187 75 = some (.iload_n 3, 1) := fet B187 (by decide +kernel) (Or.inr rfl)
theorem f187_76 : zft 187 76 = some (.iconst 0, 1) := fet B187 (by decide +kernel) (Or.inr rfl)
theorem f187_77 : zft 187 77 = some (.invokevirtual 169, 3) := fet B187 (by decide +kernel) (Or.inr rfl)
theorem f187_80 : zft 187 80 = some (.i2l, 1) := fet B187 (by decide +kernel) (Or.inr rfl)
theorem f187_81 : zft 187 81 = some (.ladd, 1) := fet B187 (by decide +kernel) (Or.inr rfl)
theorem f187_82 : zft 187 82 = some (.lstore_n 1, 1) := fet B187 (by decide +kernel) (Or.inr rfl)
theorem f187_83 : zft 187 83 = some (.ldc2_w 304, 3) := fet B187 (by decide +kernel) (Or.inr rfl)
theorem f187_86 : zft 187 86 = some (.lload_n 1, 1) := fet B187 (by decide +kernel) (Or.inr rfl)
theorem f187_87 : zft 187 87 = some (.lmul, 1) := fet B187 (by decide +kernel) (Or.inr rfl)
theorem f187_88 : zft 187 88 = some (.aload_n 0, 1) := fet B187 (by decide +kernel) (Or.inr rfl)
theorem f187_89 : zft 187 89 = some (.iload_n 3, 1) := fet B187 (by decide +kernel) (Or.inr rfl)
theorem f187_90 : zft 187 90 = some (.iconst 1, 1) := fet B187 (by decide +kernel) (Or.inr rfl)
theorem f187_91 : zft 187 91 = some (.invokevirtual 169, 3) := fet B187 (by decide +kernel) (Or.inr rfl)
theorem f187_94 : zft 187 94 = some (.i2l, 1) := fet B187 (by decide +kernel) (Or.inr rfl)
theorem f187_95 : zft 187 95 = some (.ladd, 1) := fet B187 (by decide +kernel) (Or.inr rfl)
theorem f187_96 : zft 187 96 = some (.lstore_n 1, 1) := fet B187 (by decide +kernel) (Or.inr rfl)
theorem f187_97 : zft 187 97 = some (.iinc 3 1, 3) := fet B187 (by decide +kernel) (Or.inr rfl)
theorem f187_100 : zft 187 100 = some (.goto (-37), 3) := fet B187 (by decide +kernel) (Or.inr rfl)
theorem f187_103 : zft 187 103 = some (.iconst 0, 1) := fet B187 (by decide +kernel) (Or.inr rfl)
theorem f187_104 : zft 187 104 = some (.istore_n 3, 1) := fet B187 (by decide +kernel) (Or.inr rfl)
theorem f187_105 : zft 187 105 = some (.iload_n 3, 1) := fet B187 (by decide +kernel) (Or.inr rfl)
theorem f187_106 : zft 187 106 = some (.aload_n 0, 1) := fet B187 (by decide +kernel) (Or.inr rfl)
theorem f187_107 : zft 187 107 = some (.getfield 134, 3) := fet B187 (by decide +kernel) (Or.inr rfl)
theorem f187_110 : zft 187 110 = some (.if_icmp .ge 37, 3) := fet B187 (by decide +kernel) (Or.inr rfl)
theorem f187_113 : zft 187 113 = some (.ldc2_w 304, 3) := fet B187 (by decide +kernel) (Or.inr rfl)
theorem f187_116 : zft 187 116 = some (.lload_n 1, 1) := fet B187 (by decide +kernel) (Or.inr rfl)
theorem f187_117 : zft 187 117 = some (.lmul, 1) := fet B187 (by decide +kernel) (Or.inr rfl)
theorem f187_118 : zft 187 118 = some (.aload_n 0, 1) := fet B187 (by decide +kernel) (Or.inr rfl)
theorem f187_119 : zft 187 119 = some (.iload_n 3, 1) := fet B187 (by decide +kernel) (Or.inr rfl)
theorem f187_120 : zft 187 120 = some (.iconst 0, 1) := fet B187 (by decide +kernel) (Or.inr rfl)
theorem f187_121 : zft 187 121 = some (.invokevirtual 214, 3) := fet B187 (by decide +kernel) (Or.inr rfl)
theorem f187_124 : zft 187 124 = some (.i2l, 1) := fet B187 (by decide +kernel) (Or.inr rfl)
theorem f187_125 : zft 187 125 = some (.ladd, 1) := fet B187 (by decide +kernel) (Or.inr rfl)
theorem f187_126 : zft 187 126 = some (.lstore_n 1, 1) := fet B187 (by decide +kernel) (Or.inr rfl)
theorem f187_127 : zft 187 127 = some (.ldc2_w 304, 3) := fet B187 (by decide +kernel) (Or.inr rfl)
theorem f187_130 : zft 187 130 = some (.lload_n 1, 1) := fet B187 (by decide +kernel) (Or.inr rfl)
theorem f187_131 : zft 187 131 = some (.lmul, 1) := fet B187 (by decide +kernel) (Or.inr rfl)
theorem f187_132 : zft 187 132 = some (.aload_n 0, 1) := fet B187 (by decide +kernel) (Or.inr rfl)
theorem f187_133 : zft 187 133 = some (.iload_n 3, 1) := fet B187 (by decide +kernel) (Or.inr rfl)
theorem f187_134 : zft 187 134 = some (.iconst 1, 1) := fet B187 (by decide +kernel) (Or.inr rfl)
theorem f187_135 : zft 187 135 = some (.invokevirtual 214, 3) := fet B187 (by decide +kernel) (Or.inr rfl)
theorem f187_138 : zft 187 138 = some (.i2l, 1) := fet B187 (by decide +kernel) (Or.inr rfl)
theorem f187_139 : zft 187 139 = some (.ladd, 1) := fet B187 (by decide +kernel) (Or.inr rfl)
theorem f187_140 : zft 187 140 = some (.lstore_n 1, 1) := fet B187 (by decide +kernel) (Or.inr rfl)
theorem f187_141 : zft 187 141 = some (.iinc 3 1, 3) := fet B187 (by decide +kernel) (Or.inr rfl)
theorem f187_144 : zft 187 144 = some (.goto (-39), 3) := fet B187 (by decide +kernel) (Or.inr rfl)
theorem f187_147 : zft 187 147 = some (.iconst 0, 1) := fet B187 (by decide +kernel) (Or.inr rfl)
theorem f187_148 : zft 187 148 = some (.istore_n 3, 1) := fet B187 (by decide +kernel) (Or.inr rfl)
theorem f187_149 : zft 187 149 = some (.iload_n 3, 1) := fet B187 (by decide +kernel) (Or.inr rfl)
theorem f187_150 : zft 187 150 = some (.aload_n 0, 1) := fet B187 (by decide +kernel) (Or.inr rfl)
theorem f187_151 : zft 187 151 = some (.getfield 122, 3) := fet B187 (by decide +kernel) (Or.inr rfl)
theorem f187_154 : zft 187 154 = some (.if_icmp .ge 16, 3) := fet B187 (by decide +kernel) (Or.inr rfl)
theorem f187_157 : zft 187 157 = some (.aload_n 0, 1) := fet B187 (by decide +kernel) (Or.inr rfl)
theorem f187_158 : zft 187 158 = some (.lload_n 1, 1) := fet B187 (by decide +kernel) (Or.inr rfl)
theorem f187_159 : zft 187 159 = some (.iload_n 3, 1) := fet B187 (by decide +kernel) (Or.inr rfl)
theorem f187_160 : zft 187 160 = some (.invokevirtual 311, 3) := fet B187 (by decide +kernel) (Or.inr rfl)
theorem f187_163 : zft 187 163 = some (.lstore_n 1, 1) := fet B187 (by decide +kernel) (Or.inr rfl)
theorem f187_164 : zft 187 164 = some (.iinc 3 1, 3) := fet B187 (by decide +kernel) (Or.inr rfl)
theorem f187_167 : zft 187 167 = some (.goto (-18), 3) := fet B187 (by decide +kernel) (Or.inr rfl)
theorem f187_170 : zft 187 170 = some (.iconst 0, 1) := fet B187 (by decide +kernel) (Or.inr rfl)
theorem f187_171 : zft 187 171 = some (.istore_n 3, 1) := fet B187 (by decide +kernel) (Or.inr rfl)
theorem f187_172 : zft 187 172 = some (.iload_n 3, 1) := fet B187 (by decide +kernel) (Or.inr rfl)
theorem f187_173 : zft 187 173 = some (.aload_n 0, 1) := fet B187 (by decide +kernel) (Or.inr rfl)
theorem f187_174 : zft 187 174 = some (.getfield 128, 3) := fet B187 (by decide +kernel) (Or.inr rfl)
theorem f187_177 : zft 187 177 = some (.if_icmp .ge 16, 3) := fet B187 (by decide +kernel) (Or.inr rfl)
theorem f187_180 : zft 187 180 = some (.aload_n 0, 1) := fet B187 (by decide +kernel) (Or.inr rfl)
theorem f187_181 : zft 187 181 = some (.lload_n 1, 1) := fet B187 (by decide +kernel) (Or.inr rfl)
theorem f187_182 : zft 187 182 = some (.iload_n 3, 1) := fet B187 (by decide +kernel) (Or.inr rfl)
theorem f187_183 : zft 187 183 = some (.invokevirtual 315, 3) := fet B187 (by decide +kernel) (Or.inr rfl)
theorem f187_186 : zft 187 186 = some (.lstore_n 1, 1) := fet B187 (by decide +kernel) (Or.inr rfl)
theorem f187_187 : zft 187 187 = some (.iinc 3 1, 3) := fet B187 (by decide +kernel) (Or.inr rfl)
theorem f187_190 : zft 187 190 = some (.goto (-18), 3) := fet B187 (by decide +kernel) (Or.inr rfl)
theorem f187_193 : zft 187 193 = some (.aload_n 0, 1) := fet B187 (by decide +kernel) (Or.inr rfl)
theorem f187_194 : zft 187 194 = some (.invokevirtual 202, 3) := fet B187 (by decide +kernel) (Or.inr rfl)
theorem f187_197 : zft 187 197 = some (.iconst 0, 1) := fet B187 (by decide +kernel) (Or.inr rfl)
theorem f187_198 : zft 187 198 = some (.istore_n 3, 1) := fet B187 (by decide +kernel) (Or.inr rfl)
theorem f187_199 : zft 187 199 = some (.iload_n 3, 1) := fet B187 (by decide +kernel) (Or.inr rfl)
theorem f187_200 : zft 187 200 = some (.bipush 24, 2) := fet B187 (by decide +kernel) (Or.inr rfl)
theorem f187_202 : zft 187 202 = some (.if_icmp .ge 25, 3) := fet B187 (by decide +kernel) (Or.inr rfl)
theorem f187_205 : zft 187 205 = some (.ldc2_w 304, 3) := fet B187 (by decide +kernel) (Or.inr rfl)
theorem f187_208 : zft 187 208 = some (.lload_n 1, 1) := fet B187 (by decide +kernel) (Or.inr rfl)
theorem f187_209 : zft 187 209 = some (.lmul, 1) := fet B187 (by decide +kernel) (Or.inr rfl)
theorem f187_210 : zft 187 210 = some (.aload_n 0, 1) := fet B187 (by decide +kernel) (Or.inr rfl)
theorem f187_211 : zft 187 211 = some (.iload_n 3, 1) := fet B187 (by decide +kernel) (Or.inr rfl)
theorem f187_212 : zft 187 212 = some (.invokevirtual 217, 3) := fet B187 (by decide +kernel) (Or.inr rfl)
theorem f187_215 : zft 187 215 = some (.invokestatic 220, 3) := fet B187 (by decide +kernel) (Or.inr rfl)
theorem f187_218 : zft 187 218 = some (.i2l, 1) := fet B187 (by decide +kernel) (Or.inr rfl)
theorem f187_219 : zft 187 219 = some (.ladd, 1) := fet B187 (by decide +kernel) (Or.inr rfl)
theorem f187_220 : zft 187 220 = some (.lstore_n 1, 1) := fet B187 (by decide +kernel) (Or.inr rfl)
theorem f187_221 : zft 187 221 = some (.iinc 3 1, 3) := fet B187 (by decide +kernel) (Or.inr rfl)
theorem f187_224 : zft 187 224 = some (.goto (-25), 3) := fet B187 (by decide +kernel) (Or.inr rfl)
theorem f187_227 : zft 187 227 = some (.ldc2_w 304, 3) := fet B187 (by decide +kernel) (Or.inr rfl)
theorem f187_230 : zft 187 230 = some (.lload_n 1, 1) := fet B187 (by decide +kernel) (Or.inr rfl)
theorem f187_231 : zft 187 231 = some (.lmul, 1) := fet B187 (by decide +kernel) (Or.inr rfl)
theorem f187_232 : zft 187 232 = some (.aload_n 0, 1) := fet B187 (by decide +kernel) (Or.inr rfl)
theorem f187_233 : zft 187 233 = some (.invokevirtual 223, 3) := fet B187 (by decide +kernel) (Or.inr rfl)
theorem f187_236 : zft 187 236 = some (.i2l, 1) := fet B187 (by decide +kernel) (Or.inr rfl)
theorem f187_237 : zft 187 237 = some (.ladd, 1) := fet B187 (by decide +kernel) (Or.inr rfl)
theorem f187_238 : zft 187 238 = some (.lstore_n 1, 1) := fet B187 (by decide +kernel) (Or.inr rfl)
theorem f187_239 : zft 187 239 = some (.ldc2_w 304, 3) := fet B187 (by decide +kernel) (Or.inr rfl)
theorem f187_242 : zft 187 242 = some (.lload_n 1, 1) := fet B187 (by decide +kernel) (Or.inr rfl)
theorem f187_243 : zft 187 243 = some (.lmul, 1) := fet B187 (by decide +kernel) (Or.inr rfl)
theorem f187_244 : zft 187 244 = some (.aload_n 0, 1) := fet B187 (by decide +kernel) (Or.inr rfl)
theorem f187_245 : zft 187 245 = some (.invokevirtual 226, 3) := fet B187 (by decide +kernel) (Or.inr rfl)
theorem f187_248 : zft 187 248 = some (.i2l, 1) := fet B187 (by decide +kernel) (Or.inr rfl)
theorem f187_249 : zft 187 249 = some (.ladd, 1) := fet B187 (by decide +kernel) (Or.inr rfl)
theorem f187_250 : zft 187 250 = some (.lstore_n 1, 1) := fet B187 (by decide +kernel) (Or.inr rfl)
theorem f187_251 : zft 187 251 = some (.ldc2_w 304, 3) := fet B187 (by decide +kernel) (Or.inr rfl)
theorem f187_254 : zft 187 254 = some (.lload_n 1, 1) := fet B187 (by decide +kernel) (Or.inr rfl)
theorem f187_255 : zft 187 255 = some (.lmul, 1) := fet B187 (by decide +kernel) (Or.inr rfl)
theorem f187_256 : zft 187 256 = some (.aload_n 0, 1) := fet B187 (by decide +kernel) (Or.inr rfl)
theorem f187_257 : zft 187 257 = some (.iconst 0, 1) := fet B187 (by decide +kernel) (Or.inr rfl)
theorem f187_258 : zft 187 258 = some (.invokevirtual 229, 3) := fet B187 (by decide +kernel) (Or.inr rfl)
theorem f187_261 : zft 187 261 = some (.i2l, 1) := fet B187 (by decide +kernel) (Or.inr rfl)
theorem f187_262 : zft 187 262 = some (.ladd, 1) := fet B187 (by decide +kernel) (Or.inr rfl)
theorem f187_263 : zft 187 263 = some (.lstore_n 1, 1) := fet B187 (by decide +kernel) (Or.inr rfl)
theorem f187_264 : zft 187 264 = some (.ldc2_w 304, 3) := fet B187 (by decide +kernel) (Or.inr rfl)
theorem f187_267 : zft 187 267 = some (.lload_n 1, 1) := fet B187 (by decide +kernel) (Or.inr rfl)
theorem f187_268 : zft 187 268 = some (.lmul, 1) := fet B187 (by decide +kernel) (Or.inr rfl)
theorem f187_269 : zft 187 269 = some (.aload_n 0, 1) := fet B187 (by decide +kernel) (Or.inr rfl)
theorem f187_270 : zft 187 270 = some (.iconst 1, 1) := fet B187 (by decide +kernel) (Or.inr rfl)
theorem f187_271 : zft 187 271 = some (.invokevirtual 229, 3) := fet B187 (by decide +kernel) (Or.inr rfl)
theorem f187_274 : zft 187 274 = some (.i2l, 1) := fet B187 (by decide +kernel) (Or.inr rfl)
theorem f187_275 : zft 187 275 = some (.ladd, 1) := fet B187 (by decide +kernel) (Or.inr rfl)
theorem f187_276 : zft 187 276 = some (.lstore_n 1, 1) := fet B187 (by decide +kernel) (Or.inr rfl)
theorem f187_277 : zft 187 277 = some (.iconst 0, 1) := fet B187 (by decide +kernel) (Or.inr rfl)
theorem f187_278 : zft 187 278 = some (.istore_n 3, 1) := fet B187 (by decide +kernel) (Or.inr rfl)
theorem f187_279 : zft 187 279 = some (.iload_n 3, 1) := fet B187 (by decide +kernel) (Or.inr rfl)
theorem f187_280 : zft 187 280 = some (.iconst 3, 1) := fet B187 (by decide +kernel) (Or.inr rfl)
theorem f187_281 : zft 187 281 = some (.if_icmp .ge 22, 3) := fet B187 (by decide +kernel) (Or.inr rfl)
theorem f187_284 : zft 187 284 = some (.ldc2_w 304, 3) := fet B187 (by decide +kernel) (Or.inr rfl)
theorem f187_287 : zft 187 287 = some (.lload_n 1, 1) := fet B187 (by decide +kernel) (Or.inr rfl)
theorem f187_288 : zft 187 288 = some (.lmul, 1) := fet B187 (by decide +kernel) (Or.inr rfl)
theorem f187_289 : zft 187 289 = some (.aload_n 0, 1) := fet B187 (by decide +kernel) (Or.inr rfl)
theorem f187_290 : zft 187 290 = some (.iload_n 3, 1) := fet B187 (by decide +kernel) (Or.inr rfl)
theorem f187_291 : zft 187 291 = some (.invokevirtual 235, 3) := fet B187 (by decide +kernel) (Or.inr rfl)
theorem f187_294 : zft 187 294 = some (.i2l, 1) := fet B187 (by decide +kernel) (Or.inr rfl)
theorem f187_295 : zft 187 295 = some (.ladd, 1) := fet B187 (by decide +kernel) (Or.inr rfl)
theorem f187_296 : zft 187 296 = some (.lstore_n 1, 1) := fet B187 (by decide +kernel) (Or.inr rfl)
theorem f187_297 : zft 187 297 = some (.iinc 3 1, 3) := fet B187 (by decide +kernel) (Or.inr rfl)
theorem f187_300 : zft 187 300 = some (.goto (-21), 3) := fet B187 (by decide +kernel) (Or.inr rfl)
theorem f187_303 : zft 187 303 = some (.ldc2_w 304, 3) := fet B187 (by decide +kernel) (Or.inr rfl)
theorem f187_306 : zft 187 306 = some (.lload_n 1, 1) := fet B187 (by decide +kernel) (Or.inr rfl)
theorem f187_307 : zft 187 307 = some (.lmul, 1) := fet B187 (by decide +kernel) (Or.inr rfl)
theorem f187_308 : zft 187 308 = some (.aload_n 0, 1) := fet B187 (by decide +kernel) (Or.inr rfl)
theorem f187_309 : zft 187 309 = some (.invokevirtual 238, 3) := fet B187 (by decide +kernel) (Or.inr rfl)
theorem f187_312 : zft 187 312 = some (.i2l, 1) := fet B187 (by decide +kernel) (Or.inr rfl)
theorem f187_313 : zft 187 313 = some (.ladd, 1) := fet B187 (by decide +kernel) (Or.inr rfl)
theorem f187_314 : zft 187 314 = some (.lstore_n 1, 1) := fet B187 (by decide +kernel) (Or.inr rfl)
theorem f187_315 : zft 187 315 = some (.iconst 0, 1) := fet B187 (by decide +kernel) (Or.inr rfl)
theorem f187_316 : zft 187 316 = some (.istore_n 3, 1) := fet B187 (by decide +kernel) (Or.inr rfl)
theorem f187_317 : zft 187 317 = some (.iload_n 3, 1) := fet B187 (by decide +kernel) (Or.inr rfl)
theorem f187_318 : zft 187 318 = some (.iconst 3, 1) := fet B187 (by decide +kernel) (Or.inr rfl)
theorem f187_319 : zft 187 319 = some (.if_icmp .ge 22, 3) := fet B187 (by decide +kernel) (Or.inr rfl)
theorem f187_322 : zft 187 322 = some (.ldc2_w 304, 3) := fet B187 (by decide +kernel) (Or.inr rfl)
theorem f187_325 : zft 187 325 = some (.lload_n 1, 1) := fet B187 (by decide +kernel) (Or.inr rfl)
theorem f187_326 : zft 187 326 = some (.lmul, 1) := fet B187 (by decide +kernel) (Or.inr rfl)
theorem f187_327 : zft 187 327 = some (.aload_n 0, 1) := fet B187 (by decide +kernel) (Or.inr rfl)
theorem f187_328 : zft 187 328 = some (.iload_n 3, 1) := fet B187 (by decide +kernel) (Or.inr rfl)
theorem f187_329 : zft 187 329 = some (.invokevirtual 245, 3) := fet B187 (by decide +kernel) (Or.inr rfl)
theorem f187_332 : zft 187 332 = some (.i2l, 1) := fet B187 (by decide +kernel) (Or.inr rfl)
theorem f187_333 : zft 187 333 = some (.ladd, 1) := fet B187 (by decide +kernel) (Or.inr rfl)
theorem f187_334 : zft 187 334 = some (.lstore_n 1, 1) := fet B187 (by decide +kernel) (Or.inr rfl)
theorem f187_335 : zft 187 335 = some (.iinc 3 1, 3) := fet B187 (by decide +kernel) (Or.inr rfl)
theorem f187_338 : zft 187 338 = some (.goto (-21), 3) := fet B187 (by decide +kernel) (Or.inr rfl)
theorem f187_341 : zft 187 341 = some (.ldc2_w 304, 3) := fet B187 (by decide +kernel) (Or.inr rfl)
theorem f187_344 : zft 187 344 = some (.lload_n 1, 1) := fet B187 (by decide +kernel) (Or.inr rfl)
theorem f187_345 : zft 187 345 = some (.lmul, 1) := fet B187 (by decide +kernel) (Or.inr rfl)
theorem f187_346 : zft 187 346 = some (.aload_n 0, 1) := fet B187 (by decide +kernel) (Or.inr rfl)
theorem f187_347 : zft 187 347 = some (.iconst (-1), 1) := fet B187 (by decide +kernel) (Or.inr rfl)
theorem f187_348 : zft 187 348 = some (.invokevirtual 253, 3) := fet B187 (by decide +kernel) (Or.inr rfl)
theorem f187_351 : zft 187 351 = some (.i2l, 1) := fet B187 (by decide +kernel) (Or.inr rfl)
theorem f187_352 : zft 187 352 = some (.ladd, 1) := fet B187 (by decide +kernel) (Or.inr rfl)
theorem f187_353 : zft 187 353 = some (.lstore_n 1, 1) := fet B187 (by decide +kernel) (Or.inr rfl)
theorem f187_354 : zft 187 354 = some (.ldc2_w 304, 3) := fet B187 (by decide +kernel) (Or.inr rfl)
theorem f187_357 : zft 187 357 = some (.lload_n 1, 1) := fet B187 (by decide +kernel) (Or.inr rfl)
theorem f187_358 : zft 187 358 = some (.lmul, 1) := fet B187 (by decide +kernel) (Or.inr rfl)
theorem f187_359 : zft 187 359 = some (.aload_n 0, 1) := fet B187 (by decide +kernel) (Or.inr rfl)
theorem f187_360 : zft 187 360 = some (.iconst 0, 1) := fet B187 (by decide +kernel) (Or.inr rfl)
theorem f187_361 : zft 187 361 = some (.invokevirtual 253, 3) := fet B187 (by decide +kernel) (Or.inr rfl)
theorem f187_364 : zft 187 364 = some (.i2l, 1) := fet B187 (by decide +kernel) (Or.inr rfl)
theorem f187_365 : zft 187 365 = some (.ladd, 1) := fet B187 (by decide +kernel) (Or.inr rfl)
theorem f187_366 : zft 187 366 = some (.lstore_n 1, 1) := fet B187 (by decide +kernel) (Or.inr rfl)
theorem f187_367 : zft 187 367 = some (.ldc2_w 304, 3) := fet B187 (by decide +kernel) (Or.inr rfl)
theorem f187_370 : zft 187 370 = some (.lload_n 1, 1) := fet B187 (by decide +kernel) (Or.inr rfl)
theorem f187_371 : zft 187 371 = some (.lmul, 1) := fet B187 (by decide +kernel) (Or.inr rfl)
theorem f187_372 : zft 187 372 = some (.aload_n 0, 1) := fet B187 (by decide +kernel) (Or.inr rfl)
theorem f187_373 : zft 187 373 = some (.invokevirtual 265, 3) := fet B187 (by decide +kernel) (Or.inr rfl)
theorem f187_376 : zft 187 376 = some (.i2l, 1) := fet B187 (by decide +kernel) (Or.inr rfl)
theorem f187_377 : zft 187 377 = some (.ladd, 1) := fet B187 (by decide +kernel) (Or.inr rfl)
theorem f187_378 : zft 187 378 = some (.lstore_n 1, 1) := fet B187 (by decide +kernel) (Or.inr rfl)
theorem f187_379 : zft 187 379 = some (.ldc2_w 304, 3) := fet B187 (by decide +kernel) (Or.inr rfl)
theorem f187_382 : zft 187 382 = some (.lload_n 1, 1) := fet B187 (by decide +kernel) (Or.inr rfl)
theorem f187_383 : zft 187 383 = some (.lmul, 1) := fet B187 (by decide +kernel) (Or.inr rfl)
theorem f187_384 : zft 187 384 = some (.aload_n 0, 1) := fet B187 (by decide +kernel) (Or.inr rfl)
theorem f187_385 : zft 187 385 = some (.bipush 7, 2) := fet B187 (by decide +kernel) (Or.inr rfl)
theorem f187_387 : zft 187 387 = some (.bipush 12, 2) := fet B187 (by decide +kernel) (Or.inr rfl)
theorem f187_389 : zft 187 389 = some (.iconst 0, 1) := fet B187 (by decide +kernel) (Or.inr rfl)
theorem f187_390 : zft 187 390 = some (.invokevirtual 301, 3) := fet B187 (by decide +kernel) (Or.inr rfl)
theorem f187_393 : zft 187 393 = some (.i2l, 1) := fet B187 (by decide +kernel) (Or.inr rfl)
theorem f187_394 : zft 187 394 = some (.ladd, 1) := fet B187 (by decide +kernel) (Or.inr rfl)
theorem f187_395 : zft 187 395 = some (.lstore_n 1, 1) := fet B187 (by decide +kernel) (Or.inr rfl)
theorem f187_396 : zft 187 396 = some (.ldc2_w 304, 3) := fet B187 (by decide +kernel) (Or.inr rfl)
theorem f187_399 : zft 187 399 = some (.lload_n 1, 1) := fet B187 (by decide +kernel) (Or.inr rfl)
theorem f187_400 : zft 187 400 = some (.lmul, 1) := fet B187 (by decide +kernel) (Or.inr rfl)
theorem f187_401 : zft 187 401 = some (.aload_n 0, 1) := fet B187 (by decide +kernel) (Or.inr rfl)
theorem f187_402 : zft 187 402 = some (.bipush 7, 2) := fet B187 (by decide +kernel) (Or.inr rfl)
theorem f187_404 : zft 187 404 = some (.bipush 12, 2) := fet B187 (by decide +kernel) (Or.inr rfl)
theorem f187_406 : zft 187 406 = some (.iconst 1, 1) := fet B187 (by decide +kernel) (Or.inr rfl)
theorem f187_407 : zft 187 407 = some (.invokevirtual 301, 3) := fet B187 (by decide +kernel) (Or.inr rfl)
theorem f187_410 : zft 187 410 = some (.i2l, 1) := fet B187 (by decide +kernel) (Or.inr rfl)
theorem f187_411 : zft 187 411 = some (.ladd, 1) := fet B187 (by decide +kernel) (Or.inr rfl)
theorem f187_412 : zft 187 412 = some (.lreturn, 1) := fet B187 (by decide +kernel) (Or.inr rfl)
theorem x187_0 : Rn S 187 0 [v0, v1, v2, v3] st I J Q = Rn S 187 3 [v0, v1, v2, v3] (.long 17 :: st) I J Q := rS f187_0 rfl
theorem x187_3 : Rn S 187 3 [v0, v1, v2, v3] (.long u :: st) I J Q = Rn S 187 4 [zkl v0, .long u, .null, v3] st I J Q := rL f187_3 rfl rfl
theorem x187_4 : Rn S 187 4 [v0, v1, v2, v3] st I J Q = Rn S 187 5 [v0, v1, v2, v3] (.int 0 :: st) I J Q := rS f187_4 rfl
theorem x187_5 : Rn S 187 5 [v0, v1, v2, v3] (.int a :: st) I J Q = Rn S 187 6 [v0, v1, zkl v2, .int a] st I J Q := rL f187_5 rfl rfl
theorem h187_6 : Rn S 187 6 [v0, v1, v2, .int a] st I J Q = Rn S 187 7 [v0, v1, v2, .int a] (.int a :: st) I J Q := rL f187_6 rfl rfl
theorem x187_7 : Rn S 187 7 [v0, v1, v2, v3] st I J Q = Rn S 187 9 [v0, v1, v2, v3] (.int 8 :: st) I J Q := rS f187_7 rfl
theorem x187_9 : Rn S 187 9 [v0, v1, v2, v3] (.int b :: .int a :: st) I J Q = if a < b then Rn S 187 12 [v0, v1, v2, v3] st I J Q else Rn S 187 31 [v0, v1, v2, v3] st I J Q := rCge f187_9 rfl rfl
theorem x187_12 : Rn S 187 12 [v0, v1, v2, v3] st I J Q = Rn S 187 15 [v0, v1, v2, v3] (.long 31 :: st) I J Q := rS f187_12 rfl
theorem x187_15 : Rn S 187 15 [v0, .long u, v2, v3] st I J Q = Rn S 187 16 [v0, .long u, v2, v3] (.long u :: st) I J Q := rL f187_15 rfl rfl
theorem x187_16 : Rn S 187 16 [v0, v1, v2, v3] (.long w :: .long u :: st) I J Q = Rn S 187 17 [v0, v1, v2, v3] (.long (u * w) :: st) I J Q := rS f187_16 rfl
theorem x187_17 : Rn S 187 17 [.ref q, v1, v2, v3] st I J Q = Rn S 187 18 [.ref q, v1, v2, v3] (.ref q :: st) I J Q := rL f187_17 rfl rfl
theorem x187_18 : Rn S 187 18 [v0, v1, v2, .int a] st I J Q = Rn S 187 19 [v0, v1, v2, .int a] (.int a :: st) I J Q := rL f187_18 rfl rfl
theorem x187_19 : Rn S 187 19 [v0, v1, v2, v3] (.int a0 :: .ref q :: st) I J Q = ((zcls S q = 6 ∧ zcs st ≤ 8) ∧ Rn S 184 0 [.ref q, .int a0] [] I J (fun v I' J' => Rn S 187 22 [v0, v1, v2, v3] (v.toList ++ st) I' J' Q)) := rCV (As := [.int a0]) f187_19 rfl rfl rfl rfl (Nat.le_of_ble_eq_true rfl)
theorem x187_22 : Rn S 187 22 [v0, v1, v2, v3] (.int a :: st) I J Q = Rn S 187 23 [v0, v1, v2, v3] (.long a.toInt64 :: st) I J Q := rS f187_22 rfl
theorem x187_23 : Rn S 187 23 [v0, v1, v2, v3] (.long w :: .long u :: st) I J Q = Rn S 187 24 [v0, v1, v2, v3] (.long (u + w) :: st) I J Q := rS f187_23 rfl
theorem x187_24 : Rn S 187 24 [v0, v1, v2, v3] (.long u :: st) I J Q = Rn S 187 25 [zkl v0, .long u, .null, v3] st I J Q := rL f187_24 rfl rfl
theorem x187_25 : Rn S 187 25 [v0, v1, v2, .int a] st I J Q = Rn S 187 28 [v0, v1, zkl v2, .int (a + 1)] st I J Q := rL f187_25 rfl rfl
theorem x187_28 : Rn S 187 28 [v0, v1, v2, v3] st I J Q = Rn S 187 6 [v0, v1, v2, v3] st I J Q := rB f187_28 rfl rfl rfl
theorem x187_31 : Rn S 187 31 [v0, v1, v2, v3] st I J Q = Rn S 187 32 [v0, v1, v2, v3] (.int 0 :: st) I J Q := rS f187_31 rfl
theorem x187_32 : Rn S 187 32 [v0, v1, v2, v3] (.int a :: st) I J Q = Rn S 187 33 [v0, v1, zkl v2, .int a] st I J Q := rL f187_32 rfl rfl
theorem h187_33 : Rn S 187 33 [v0, v1, v2, .int a] st I J Q = Rn S 187 34 [v0, v1, v2, .int a] (.int a :: st) I J Q := rL f187_33 rfl rfl
theorem x187_34 : Rn S 187 34 [v0, v1, v2, v3] st I J Q = Rn S 187 35 [v0, v1, v2, v3] (.int 3 :: st) I J Q := rS f187_34 rfl
theorem x187_35 : Rn S 187 35 [v0, v1, v2, v3] (.int b :: .int a :: st) I J Q = if a < b then Rn S 187 38 [v0, v1, v2, v3] st I J Q else Rn S 187 57 [v0, v1, v2, v3] st I J Q := rCge f187_35 rfl rfl
theorem x187_38 : Rn S 187 38 [v0, v1, v2, v3] st I J Q = Rn S 187 41 [v0, v1, v2, v3] (.long 31 :: st) I J Q := rS f187_38 rfl
theorem x187_41 : Rn S 187 41 [v0, .long u, v2, v3] st I J Q = Rn S 187 42 [v0, .long u, v2, v3] (.long u :: st) I J Q := rL f187_41 rfl rfl
theorem x187_42 : Rn S 187 42 [v0, v1, v2, v3] (.long w :: .long u :: st) I J Q = Rn S 187 43 [v0, v1, v2, v3] (.long (u * w) :: st) I J Q := rS f187_42 rfl
theorem x187_43 : Rn S 187 43 [.ref q, v1, v2, v3] st I J Q = Rn S 187 44 [.ref q, v1, v2, v3] (.ref q :: st) I J Q := rL f187_43 rfl rfl
theorem x187_44 : Rn S 187 44 [v0, v1, v2, .int a] st I J Q = Rn S 187 45 [v0, v1, v2, .int a] (.int a :: st) I J Q := rL f187_44 rfl rfl
theorem x187_45 : Rn S 187 45 [v0, v1, v2, v3] (.int a0 :: .ref q :: st) I J Q = ((zcls S q = 6 ∧ zcs st ≤ 8) ∧ Rn S 124 0 [.ref q, .int a0] [] I J (fun v I' J' => Rn S 187 48 [v0, v1, v2, v3] (v.toList ++ st) I' J' Q)) := rCV (As := [.int a0]) f187_45 rfl rfl rfl rfl (Nat.le_of_ble_eq_true rfl)
theorem x187_48 : Rn S 187 48 [v0, v1, v2, v3] (.int a :: st) I J Q = Rn S 187 49 [v0, v1, v2, v3] (.long a.toInt64 :: st) I J Q := rS f187_48 rfl
theorem x187_49 : Rn S 187 49 [v0, v1, v2, v3] (.long w :: .long u :: st) I J Q = Rn S 187 50 [v0, v1, v2, v3] (.long (u + w) :: st) I J Q := rS f187_49 rfl
theorem x187_50 : Rn S 187 50 [v0, v1, v2, v3] (.long u :: st) I J Q = Rn S 187 51 [zkl v0, .long u, .null, v3] st I J Q := rL f187_50 rfl rfl
theorem x187_51 : Rn S 187 51 [v0, v1, v2, .int a] st I J Q = Rn S 187 54 [v0, v1, zkl v2, .int (a + 1)] st I J Q := rL f187_51 rfl rfl
theorem x187_54 : Rn S 187 54 [v0, v1, v2, v3] st I J Q = Rn S 187 33 [v0, v1, v2, v3] st I J Q := rB f187_54 rfl rfl rfl
theorem x187_57 : Rn S 187 57 [.ref q, v1, v2, v3] st I J Q = Rn S 187 58 [.ref q, v1, v2, v3] (.ref q :: st) I J Q := rL f187_57 rfl rfl
theorem x187_58 : Rn S 187 58 [v0, v1, v2, v3] (.ref q :: st) I J Q = ((zcls S q = 6 ∧ zcs st ≤ 8) ∧ Rn S 140 0 [.ref q, .null] [] I J (fun v I' J' => Rn S 187 61 [v0, v1, v2, v3] (v.toList ++ st) I' J' Q)) := rCV (As := []) f187_58 rfl rfl rfl rfl (Nat.le_of_ble_eq_true rfl)
theorem x187_61 : Rn S 187 61 [v0, v1, v2, v3] st I J Q = Rn S 187 62 [v0, v1, v2, v3] (.int 0 :: st) I J Q := rS f187_61 rfl
theorem x187_62 : Rn S 187 62 [v0, v1, v2, v3] (.int a :: st) I J Q = Rn S 187 63 [v0, v1, zkl v2, .int a] st I J Q := rL f187_62 rfl rfl
theorem h187_63 : Rn S 187 63 [v0, v1, v2, .int a] st I J Q = Rn S 187 64 [v0, v1, v2, .int a] (.int a :: st) I J Q := rL f187_63 rfl rfl
theorem x187_64 : Rn S 187 64 [v0, v1, v2, v3] st I J Q = Rn S 187 66 [v0, v1, v2, v3] (.int 16 :: st) I J Q := rS f187_64 rfl
theorem x187_66 : Rn S 187 66 [v0, v1, v2, v3] (.int b :: .int a :: st) I J Q = if a < b then Rn S 187 69 [v0, v1, v2, v3] st I J Q else Rn S 187 103 [v0, v1, v2, v3] st I J Q := rCge f187_66 rfl rfl
theorem x187_69 : Rn S 187 69 [v0, v1, v2, v3] st I J Q = Rn S 187 72 [v0, v1, v2, v3] (.long 31 :: st) I J Q := rS f187_69 rfl
theorem x187_72 : Rn S 187 72 [v0, .long u, v2, v3] st I J Q = Rn S 187 73 [v0, .long u, v2, v3] (.long u :: st) I J Q := rL f187_72 rfl rfl
theorem x187_73 : Rn S 187 73 [v0, v1, v2, v3] (.long w :: .long u :: st) I J Q = Rn S 187 74 [v0, v1, v2, v3] (.long (u * w) :: st) I J Q := rS f187_73 rfl
theorem x187_74 : Rn S 187 74 [.ref q, v1, v2, v3] st I J Q = Rn S 187 75 [.ref q, v1, v2, v3] (.ref q :: st) I J Q := rL f187_74 rfl rfl
theorem x187_75 : Rn S 187 75 [v0, v1, v2, .int a] st I J Q = Rn S 187 76 [v0, v1, v2, .int a] (.int a :: st) I J Q := rL f187_75 rfl rfl
theorem x187_76 : Rn S 187 76 [v0, v1, v2, v3] st I J Q = Rn S 187 77 [v0, v1, v2, v3] (.int 0 :: st) I J Q := rS f187_76 rfl
theorem x187_77 : Rn S 187 77 [v0, v1, v2, v3] (.int a1 :: .int a0 :: .ref q :: st) I J Q = ((zcls S q = 6 ∧ zcs st ≤ 8) ∧ Rn S 132 0 [.ref q, .int a0, .int a1] [] I J (fun v I' J' => Rn S 187 80 [v0, v1, v2, v3] (v.toList ++ st) I' J' Q)) := rCV (As := [.int a0, .int a1]) f187_77 rfl rfl rfl rfl (Nat.le_of_ble_eq_true rfl)
theorem x187_80 : Rn S 187 80 [v0, v1, v2, v3] (.int a :: st) I J Q = Rn S 187 81 [v0, v1, v2, v3] (.long a.toInt64 :: st) I J Q := rS f187_80 rfl
theorem x187_81 : Rn S 187 81 [v0, v1, v2, v3] (.long w :: .long u :: st) I J Q = Rn S 187 82 [v0, v1, v2, v3] (.long (u + w) :: st) I J Q := rS f187_81 rfl
theorem x187_82 : Rn S 187 82 [v0, v1, v2, v3] (.long u :: st) I J Q = Rn S 187 83 [zkl v0, .long u, .null, v3] st I J Q := rL f187_82 rfl rfl
theorem x187_83 : Rn S 187 83 [v0, v1, v2, v3] st I J Q = Rn S 187 86 [v0, v1, v2, v3] (.long 31 :: st) I J Q := rS f187_83 rfl
theorem x187_86 : Rn S 187 86 [v0, .long u, v2, v3] st I J Q = Rn S 187 87 [v0, .long u, v2, v3] (.long u :: st) I J Q := rL f187_86 rfl rfl
theorem x187_87 : Rn S 187 87 [v0, v1, v2, v3] (.long w :: .long u :: st) I J Q = Rn S 187 88 [v0, v1, v2, v3] (.long (u * w) :: st) I J Q := rS f187_87 rfl
theorem x187_88 : Rn S 187 88 [.ref q, v1, v2, v3] st I J Q = Rn S 187 89 [.ref q, v1, v2, v3] (.ref q :: st) I J Q := rL f187_88 rfl rfl
theorem x187_89 : Rn S 187 89 [v0, v1, v2, .int a] st I J Q = Rn S 187 90 [v0, v1, v2, .int a] (.int a :: st) I J Q := rL f187_89 rfl rfl
theorem x187_90 : Rn S 187 90 [v0, v1, v2, v3] st I J Q = Rn S 187 91 [v0, v1, v2, v3] (.int 1 :: st) I J Q := rS f187_90 rfl
theorem x187_91 : Rn S 187 91 [v0, v1, v2, v3] (.int a1 :: .int a0 :: .ref q :: st) I J Q = ((zcls S q = 6 ∧ zcs st ≤ 8) ∧ Rn S 132 0 [.ref q, .int a0, .int a1] [] I J (fun v I' J' => Rn S 187 94 [v0, v1, v2, v3] (v.toList ++ st) I' J' Q)) := rCV (As := [.int a0, .int a1]) f187_91 rfl rfl rfl rfl (Nat.le_of_ble_eq_true rfl)
theorem x187_94 : Rn S 187 94 [v0, v1, v2, v3] (.int a :: st) I J Q = Rn S 187 95 [v0, v1, v2, v3] (.long a.toInt64 :: st) I J Q := rS f187_94 rfl
theorem x187_95 : Rn S 187 95 [v0, v1, v2, v3] (.long w :: .long u :: st) I J Q = Rn S 187 96 [v0, v1, v2, v3] (.long (u + w) :: st) I J Q := rS f187_95 rfl
theorem x187_96 : Rn S 187 96 [v0, v1, v2, v3] (.long u :: st) I J Q = Rn S 187 97 [zkl v0, .long u, .null, v3] st I J Q := rL f187_96 rfl rfl
theorem x187_97 : Rn S 187 97 [v0, v1, v2, .int a] st I J Q = Rn S 187 100 [v0, v1, zkl v2, .int (a + 1)] st I J Q := rL f187_97 rfl rfl
theorem x187_100 : Rn S 187 100 [v0, v1, v2, v3] st I J Q = Rn S 187 63 [v0, v1, v2, v3] st I J Q := rB f187_100 rfl rfl rfl
theorem x187_103 : Rn S 187 103 [v0, v1, v2, v3] st I J Q = Rn S 187 104 [v0, v1, v2, v3] (.int 0 :: st) I J Q := rS f187_103 rfl
theorem x187_104 : Rn S 187 104 [v0, v1, v2, v3] (.int a :: st) I J Q = Rn S 187 105 [v0, v1, zkl v2, .int a] st I J Q := rL f187_104 rfl rfl
theorem h187_105 : Rn S 187 105 [v0, v1, v2, .int a] st I J Q = Rn S 187 106 [v0, v1, v2, .int a] (.int a :: st) I J Q := rL f187_105 rfl rfl
theorem x187_106 : Rn S 187 106 [.ref q, v1, v2, v3] st I J Q = Rn S 187 107 [.ref q, v1, v2, v3] (.ref q :: st) I J Q := rL f187_106 rfl rfl
theorem x187_107_65 : Rn (zG xl) 187 107 [v0, v1, v2, v3] (.ref 65 :: st) I J Q = Rn (zG xl) 187 110 [v0, v1, v2, v3] (.int (I 65 11) :: st) I J Q := (rGf f187_107 rfl).trans (tr_and rfl)
theorem x187_110 : Rn S 187 110 [v0, v1, v2, v3] (.int b :: .int a :: st) I J Q = if a < b then Rn S 187 113 [v0, v1, v2, v3] st I J Q else Rn S 187 147 [v0, v1, v2, v3] st I J Q := rCge f187_110 rfl rfl
theorem x187_113 : Rn S 187 113 [v0, v1, v2, v3] st I J Q = Rn S 187 116 [v0, v1, v2, v3] (.long 31 :: st) I J Q := rS f187_113 rfl
theorem x187_116 : Rn S 187 116 [v0, .long u, v2, v3] st I J Q = Rn S 187 117 [v0, .long u, v2, v3] (.long u :: st) I J Q := rL f187_116 rfl rfl
theorem x187_117 : Rn S 187 117 [v0, v1, v2, v3] (.long w :: .long u :: st) I J Q = Rn S 187 118 [v0, v1, v2, v3] (.long (u * w) :: st) I J Q := rS f187_117 rfl
theorem x187_118 : Rn S 187 118 [.ref q, v1, v2, v3] st I J Q = Rn S 187 119 [.ref q, v1, v2, v3] (.ref q :: st) I J Q := rL f187_118 rfl rfl
theorem x187_119 : Rn S 187 119 [v0, v1, v2, .int a] st I J Q = Rn S 187 120 [v0, v1, v2, .int a] (.int a :: st) I J Q := rL f187_119 rfl rfl
theorem x187_120 : Rn S 187 120 [v0, v1, v2, v3] st I J Q = Rn S 187 121 [v0, v1, v2, v3] (.int 0 :: st) I J Q := rS f187_120 rfl
theorem x187_121 : Rn S 187 121 [v0, v1, v2, v3] (.int a1 :: .int a0 :: .ref q :: st) I J Q = ((zcls S q = 6 ∧ zcs st ≤ 8) ∧ Rn S 146 0 [.ref q, .int a0, .int a1] [] I J (fun v I' J' => Rn S 187 124 [v0, v1, v2, v3] (v.toList ++ st) I' J' Q)) := rCV (As := [.int a0, .int a1]) f187_121 rfl rfl rfl rfl (Nat.le_of_ble_eq_true rfl)
theorem x187_124 : Rn S 187 124 [v0, v1, v2, v3] (.int a :: st) I J Q = Rn S 187 125 [v0, v1, v2, v3] (.long a.toInt64 :: st) I J Q := rS f187_124 rfl
theorem x187_125 : Rn S 187 125 [v0, v1, v2, v3] (.long w :: .long u :: st) I J Q = Rn S 187 126 [v0, v1, v2, v3] (.long (u + w) :: st) I J Q := rS f187_125 rfl
theorem x187_126 : Rn S 187 126 [v0, v1, v2, v3] (.long u :: st) I J Q = Rn S 187 127 [zkl v0, .long u, .null, v3] st I J Q := rL f187_126 rfl rfl
theorem x187_127 : Rn S 187 127 [v0, v1, v2, v3] st I J Q = Rn S 187 130 [v0, v1, v2, v3] (.long 31 :: st) I J Q := rS f187_127 rfl
theorem x187_130 : Rn S 187 130 [v0, .long u, v2, v3] st I J Q = Rn S 187 131 [v0, .long u, v2, v3] (.long u :: st) I J Q := rL f187_130 rfl rfl
theorem x187_131 : Rn S 187 131 [v0, v1, v2, v3] (.long w :: .long u :: st) I J Q = Rn S 187 132 [v0, v1, v2, v3] (.long (u * w) :: st) I J Q := rS f187_131 rfl
theorem x187_132 : Rn S 187 132 [.ref q, v1, v2, v3] st I J Q = Rn S 187 133 [.ref q, v1, v2, v3] (.ref q :: st) I J Q := rL f187_132 rfl rfl
theorem x187_133 : Rn S 187 133 [v0, v1, v2, .int a] st I J Q = Rn S 187 134 [v0, v1, v2, .int a] (.int a :: st) I J Q := rL f187_133 rfl rfl
theorem x187_134 : Rn S 187 134 [v0, v1, v2, v3] st I J Q = Rn S 187 135 [v0, v1, v2, v3] (.int 1 :: st) I J Q := rS f187_134 rfl
theorem x187_135 : Rn S 187 135 [v0, v1, v2, v3] (.int a1 :: .int a0 :: .ref q :: st) I J Q = ((zcls S q = 6 ∧ zcs st ≤ 8) ∧ Rn S 146 0 [.ref q, .int a0, .int a1] [] I J (fun v I' J' => Rn S 187 138 [v0, v1, v2, v3] (v.toList ++ st) I' J' Q)) := rCV (As := [.int a0, .int a1]) f187_135 rfl rfl rfl rfl (Nat.le_of_ble_eq_true rfl)
theorem x187_138 : Rn S 187 138 [v0, v1, v2, v3] (.int a :: st) I J Q = Rn S 187 139 [v0, v1, v2, v3] (.long a.toInt64 :: st) I J Q := rS f187_138 rfl
theorem x187_139 : Rn S 187 139 [v0, v1, v2, v3] (.long w :: .long u :: st) I J Q = Rn S 187 140 [v0, v1, v2, v3] (.long (u + w) :: st) I J Q := rS f187_139 rfl
theorem x187_140 : Rn S 187 140 [v0, v1, v2, v3] (.long u :: st) I J Q = Rn S 187 141 [zkl v0, .long u, .null, v3] st I J Q := rL f187_140 rfl rfl
theorem x187_141 : Rn S 187 141 [v0, v1, v2, .int a] st I J Q = Rn S 187 144 [v0, v1, zkl v2, .int (a + 1)] st I J Q := rL f187_141 rfl rfl
theorem x187_144 : Rn S 187 144 [v0, v1, v2, v3] st I J Q = Rn S 187 105 [v0, v1, v2, v3] st I J Q := rB f187_144 rfl rfl rfl
theorem x187_147 : Rn S 187 147 [v0, v1, v2, v3] st I J Q = Rn S 187 148 [v0, v1, v2, v3] (.int 0 :: st) I J Q := rS f187_147 rfl
theorem x187_148 : Rn S 187 148 [v0, v1, v2, v3] (.int a :: st) I J Q = Rn S 187 149 [v0, v1, zkl v2, .int a] st I J Q := rL f187_148 rfl rfl
theorem h187_149 : Rn S 187 149 [v0, v1, v2, .int a] st I J Q = Rn S 187 150 [v0, v1, v2, .int a] (.int a :: st) I J Q := rL f187_149 rfl rfl
theorem x187_150 : Rn S 187 150 [.ref q, v1, v2, v3] st I J Q = Rn S 187 151 [.ref q, v1, v2, v3] (.ref q :: st) I J Q := rL f187_150 rfl rfl
theorem x187_151_65 : Rn (zG xl) 187 151 [v0, v1, v2, v3] (.ref 65 :: st) I J Q = Rn (zG xl) 187 154 [v0, v1, v2, v3] (.int (I 65 7) :: st) I J Q := (rGf f187_151 rfl).trans (tr_and rfl)
theorem x187_154 : Rn S 187 154 [v0, v1, v2, v3] (.int b :: .int a :: st) I J Q = if a < b then Rn S 187 157 [v0, v1, v2, v3] st I J Q else Rn S 187 170 [v0, v1, v2, v3] st I J Q := rCge f187_154 rfl rfl
theorem x187_157 : Rn S 187 157 [.ref q, v1, v2, v3] st I J Q = Rn S 187 158 [.ref q, v1, v2, v3] (.ref q :: st) I J Q := rL f187_157 rfl rfl
theorem x187_158 : Rn S 187 158 [v0, .long u, v2, v3] st I J Q = Rn S 187 159 [v0, .long u, v2, v3] (.long u :: st) I J Q := rL f187_158 rfl rfl
theorem x187_159 : Rn S 187 159 [v0, v1, v2, .int a] st I J Q = Rn S 187 160 [v0, v1, v2, .int a] (.int a :: st) I J Q := rL f187_159 rfl rfl
theorem x187_160 : Rn S 187 160 [v0, v1, v2, v3] (.int a1 :: .long u0 :: .ref q :: st) I J Q = ((zcls S q = 6 ∧ zcs st ≤ 8) ∧ Rn S 185 0 [.ref q, .long u0, .null, .int a1, .null, .null, .null] [] I J (fun v I' J' => Rn S 187 163 [v0, v1, v2, v3] (v.toList ++ st) I' J' Q)) := rCV (As := [.long u0, .int a1]) f187_160 rfl rfl rfl rfl (Nat.le_of_ble_eq_true rfl)
theorem x187_163 : Rn S 187 163 [v0, v1, v2, v3] (.long u :: st) I J Q = Rn S 187 164 [zkl v0, .long u, .null, v3] st I J Q := rL f187_163 rfl rfl
theorem x187_164 : Rn S 187 164 [v0, v1, v2, .int a] st I J Q = Rn S 187 167 [v0, v1, zkl v2, .int (a + 1)] st I J Q := rL f187_164 rfl rfl
theorem x187_167 : Rn S 187 167 [v0, v1, v2, v3] st I J Q = Rn S 187 149 [v0, v1, v2, v3] st I J Q := rB f187_167 rfl rfl rfl
theorem x187_170 : Rn S 187 170 [v0, v1, v2, v3] st I J Q = Rn S 187 171 [v0, v1, v2, v3] (.int 0 :: st) I J Q := rS f187_170 rfl
theorem x187_171 : Rn S 187 171 [v0, v1, v2, v3] (.int a :: st) I J Q = Rn S 187 172 [v0, v1, zkl v2, .int a] st I J Q := rL f187_171 rfl rfl
theorem h187_172 : Rn S 187 172 [v0, v1, v2, .int a] st I J Q = Rn S 187 173 [v0, v1, v2, .int a] (.int a :: st) I J Q := rL f187_172 rfl rfl
theorem x187_173 : Rn S 187 173 [.ref q, v1, v2, v3] st I J Q = Rn S 187 174 [.ref q, v1, v2, v3] (.ref q :: st) I J Q := rL f187_173 rfl rfl
theorem x187_174_65 : Rn (zG xl) 187 174 [v0, v1, v2, v3] (.ref 65 :: st) I J Q = Rn (zG xl) 187 177 [v0, v1, v2, v3] (.int (I 65 9) :: st) I J Q := (rGf f187_174 rfl).trans (tr_and rfl)
theorem x187_177 : Rn S 187 177 [v0, v1, v2, v3] (.int b :: .int a :: st) I J Q = if a < b then Rn S 187 180 [v0, v1, v2, v3] st I J Q else Rn S 187 193 [v0, v1, v2, v3] st I J Q := rCge f187_177 rfl rfl
theorem x187_180 : Rn S 187 180 [.ref q, v1, v2, v3] st I J Q = Rn S 187 181 [.ref q, v1, v2, v3] (.ref q :: st) I J Q := rL f187_180 rfl rfl
theorem x187_181 : Rn S 187 181 [v0, .long u, v2, v3] st I J Q = Rn S 187 182 [v0, .long u, v2, v3] (.long u :: st) I J Q := rL f187_181 rfl rfl
theorem x187_182 : Rn S 187 182 [v0, v1, v2, .int a] st I J Q = Rn S 187 183 [v0, v1, v2, .int a] (.int a :: st) I J Q := rL f187_182 rfl rfl
theorem x187_183 : Rn S 187 183 [v0, v1, v2, v3] (.int a1 :: .long u0 :: .ref q :: st) I J Q = ((zcls S q = 6 ∧ zcs st ≤ 8) ∧ Rn S 186 0 [.ref q, .long u0, .null, .int a1, .null, .null, .null] [] I J (fun v I' J' => Rn S 187 186 [v0, v1, v2, v3] (v.toList ++ st) I' J' Q)) := rCV (As := [.long u0, .int a1]) f187_183 rfl rfl rfl rfl (Nat.le_of_ble_eq_true rfl)
theorem x187_186 : Rn S 187 186 [v0, v1, v2, v3] (.long u :: st) I J Q = Rn S 187 187 [zkl v0, .long u, .null, v3] st I J Q := rL f187_186 rfl rfl
theorem x187_187 : Rn S 187 187 [v0, v1, v2, .int a] st I J Q = Rn S 187 190 [v0, v1, zkl v2, .int (a + 1)] st I J Q := rL f187_187 rfl rfl
theorem x187_190 : Rn S 187 190 [v0, v1, v2, v3] st I J Q = Rn S 187 172 [v0, v1, v2, v3] st I J Q := rB f187_190 rfl rfl rfl
theorem x187_193 : Rn S 187 193 [.ref q, v1, v2, v3] st I J Q = Rn S 187 194 [.ref q, v1, v2, v3] (.ref q :: st) I J Q := rL f187_193 rfl rfl
theorem x187_194 : Rn S 187 194 [v0, v1, v2, v3] (.ref q :: st) I J Q = ((zcls S q = 6 ∧ zcs st ≤ 8) ∧ Rn S 140 0 [.ref q, .null] [] I J (fun v I' J' => Rn S 187 197 [v0, v1, v2, v3] (v.toList ++ st) I' J' Q)) := rCV (As := []) f187_194 rfl rfl rfl rfl (Nat.le_of_ble_eq_true rfl)
theorem x187_197 : Rn S 187 197 [v0, v1, v2, v3] st I J Q = Rn S 187 198 [v0, v1, v2, v3] (.int 0 :: st) I J Q := rS f187_197 rfl
theorem x187_198 : Rn S 187 198 [v0, v1, v2, v3] (.int a :: st) I J Q = Rn S 187 199 [v0, v1, zkl v2, .int a] st I J Q := rL f187_198 rfl rfl
theorem h187_199 : Rn S 187 199 [v0, v1, v2, .int a] st I J Q = Rn S 187 200 [v0, v1, v2, .int a] (.int a :: st) I J Q := rL f187_199 rfl rfl
theorem x187_200 : Rn S 187 200 [v0, v1, v2, v3] st I J Q = Rn S 187 202 [v0, v1, v2, v3] (.int 24 :: st) I J Q := rS f187_200 rfl
theorem x187_202 : Rn S 187 202 [v0, v1, v2, v3] (.int b :: .int a :: st) I J Q = if a < b then Rn S 187 205 [v0, v1, v2, v3] st I J Q else Rn S 187 227 [v0, v1, v2, v3] st I J Q := rCge f187_202 rfl rfl
theorem x187_205 : Rn S 187 205 [v0, v1, v2, v3] st I J Q = Rn S 187 208 [v0, v1, v2, v3] (.long 31 :: st) I J Q := rS f187_205 rfl
theorem x187_208 : Rn S 187 208 [v0, .long u, v2, v3] st I J Q = Rn S 187 209 [v0, .long u, v2, v3] (.long u :: st) I J Q := rL f187_208 rfl rfl
theorem x187_209 : Rn S 187 209 [v0, v1, v2, v3] (.long w :: .long u :: st) I J Q = Rn S 187 210 [v0, v1, v2, v3] (.long (u * w) :: st) I J Q := rS f187_209 rfl
theorem x187_210 : Rn S 187 210 [.ref q, v1, v2, v3] st I J Q = Rn S 187 211 [.ref q, v1, v2, v3] (.ref q :: st) I J Q := rL f187_210 rfl rfl
theorem x187_211 : Rn S 187 211 [v0, v1, v2, .int a] st I J Q = Rn S 187 212 [v0, v1, v2, .int a] (.int a :: st) I J Q := rL f187_211 rfl rfl
theorem x187_212 : Rn S 187 212 [v0, v1, v2, v3] (.int a0 :: .ref q :: st) I J Q = ((zcls S q = 6 ∧ zcs st ≤ 8) ∧ Rn S 148 0 [.ref q, .int a0, .null, .null] [] I J (fun v I' J' => Rn S 187 215 [v0, v1, v2, v3] (v.toList ++ st) I' J' Q)) := rCV (As := [.int a0]) f187_212 rfl rfl rfl rfl (Nat.le_of_ble_eq_true rfl)
theorem x187_215 : Rn S 187 215 [v0, v1, v2, v3] (.int a0 :: st) I J Q = (zcs st ≤ 8 ∧ Rn S 100 0 [.int a0, .null, .null] [] I J (fun v I' J' => Rn S 187 218 [v0, v1, v2, v3] (v.toList ++ st) I' J' Q)) := rCS (As := [.int a0]) f187_215 rfl rfl rfl rfl (Nat.le_of_ble_eq_true rfl)
theorem x187_218 : Rn S 187 218 [v0, v1, v2, v3] (.int a :: st) I J Q = Rn S 187 219 [v0, v1, v2, v3] (.long a.toInt64 :: st) I J Q := rS f187_218 rfl
theorem x187_219 : Rn S 187 219 [v0, v1, v2, v3] (.long w :: .long u :: st) I J Q = Rn S 187 220 [v0, v1, v2, v3] (.long (u + w) :: st) I J Q := rS f187_219 rfl
theorem x187_220 : Rn S 187 220 [v0, v1, v2, v3] (.long u :: st) I J Q = Rn S 187 221 [zkl v0, .long u, .null, v3] st I J Q := rL f187_220 rfl rfl
theorem x187_221 : Rn S 187 221 [v0, v1, v2, .int a] st I J Q = Rn S 187 224 [v0, v1, zkl v2, .int (a + 1)] st I J Q := rL f187_221 rfl rfl
theorem x187_224 : Rn S 187 224 [v0, v1, v2, v3] st I J Q = Rn S 187 199 [v0, v1, v2, v3] st I J Q := rB f187_224 rfl rfl rfl
theorem x187_227 : Rn S 187 227 [v0, v1, v2, v3] st I J Q = Rn S 187 230 [v0, v1, v2, v3] (.long 31 :: st) I J Q := rS f187_227 rfl
theorem x187_230 : Rn S 187 230 [v0, .long u, v2, v3] st I J Q = Rn S 187 231 [v0, .long u, v2, v3] (.long u :: st) I J Q := rL f187_230 rfl rfl
theorem x187_231 : Rn S 187 231 [v0, v1, v2, v3] (.long w :: .long u :: st) I J Q = Rn S 187 232 [v0, v1, v2, v3] (.long (u * w) :: st) I J Q := rS f187_231 rfl
theorem x187_232 : Rn S 187 232 [.ref q, v1, v2, v3] st I J Q = Rn S 187 233 [.ref q, v1, v2, v3] (.ref q :: st) I J Q := rL f187_232 rfl rfl
theorem x187_233 : Rn S 187 233 [v0, v1, v2, v3] (.ref q :: st) I J Q = ((zcls S q = 6 ∧ zcs st ≤ 8) ∧ Rn S 150 0 [.ref q, .null, .null] [] I J (fun v I' J' => Rn S 187 236 [v0, v1, v2, v3] (v.toList ++ st) I' J' Q)) := rCV (As := []) f187_233 rfl rfl rfl rfl (Nat.le_of_ble_eq_true rfl)
theorem x187_236 : Rn S 187 236 [v0, v1, v2, v3] (.int a :: st) I J Q = Rn S 187 237 [v0, v1, v2, v3] (.long a.toInt64 :: st) I J Q := rS f187_236 rfl
theorem x187_237 : Rn S 187 237 [v0, v1, v2, v3] (.long w :: .long u :: st) I J Q = Rn S 187 238 [v0, v1, v2, v3] (.long (u + w) :: st) I J Q := rS f187_237 rfl
theorem x187_238 : Rn S 187 238 [v0, v1, v2, v3] (.long u :: st) I J Q = Rn S 187 239 [zkl v0, .long u, .null, v3] st I J Q := rL f187_238 rfl rfl
theorem x187_239 : Rn S 187 239 [v0, v1, v2, v3] st I J Q = Rn S 187 242 [v0, v1, v2, v3] (.long 31 :: st) I J Q := rS f187_239 rfl
theorem x187_242 : Rn S 187 242 [v0, .long u, v2, v3] st I J Q = Rn S 187 243 [v0, .long u, v2, v3] (.long u :: st) I J Q := rL f187_242 rfl rfl
theorem x187_243 : Rn S 187 243 [v0, v1, v2, v3] (.long w :: .long u :: st) I J Q = Rn S 187 244 [v0, v1, v2, v3] (.long (u * w) :: st) I J Q := rS f187_243 rfl
theorem x187_244 : Rn S 187 244 [.ref q, v1, v2, v3] st I J Q = Rn S 187 245 [.ref q, v1, v2, v3] (.ref q :: st) I J Q := rL f187_244 rfl rfl
theorem x187_245 : Rn S 187 245 [v0, v1, v2, v3] (.ref q :: st) I J Q = ((zcls S q = 6 ∧ zcs st ≤ 8) ∧ Rn S 152 0 [.ref q, .null, .null] [] I J (fun v I' J' => Rn S 187 248 [v0, v1, v2, v3] (v.toList ++ st) I' J' Q)) := rCV (As := []) f187_245 rfl rfl rfl rfl (Nat.le_of_ble_eq_true rfl)
theorem x187_248 : Rn S 187 248 [v0, v1, v2, v3] (.int a :: st) I J Q = Rn S 187 249 [v0, v1, v2, v3] (.long a.toInt64 :: st) I J Q := rS f187_248 rfl
theorem x187_249 : Rn S 187 249 [v0, v1, v2, v3] (.long w :: .long u :: st) I J Q = Rn S 187 250 [v0, v1, v2, v3] (.long (u + w) :: st) I J Q := rS f187_249 rfl
theorem x187_250 : Rn S 187 250 [v0, v1, v2, v3] (.long u :: st) I J Q = Rn S 187 251 [zkl v0, .long u, .null, v3] st I J Q := rL f187_250 rfl rfl
theorem x187_251 : Rn S 187 251 [v0, v1, v2, v3] st I J Q = Rn S 187 254 [v0, v1, v2, v3] (.long 31 :: st) I J Q := rS f187_251 rfl
theorem x187_254 : Rn S 187 254 [v0, .long u, v2, v3] st I J Q = Rn S 187 255 [v0, .long u, v2, v3] (.long u :: st) I J Q := rL f187_254 rfl rfl
theorem x187_255 : Rn S 187 255 [v0, v1, v2, v3] (.long w :: .long u :: st) I J Q = Rn S 187 256 [v0, v1, v2, v3] (.long (u * w) :: st) I J Q := rS f187_255 rfl
theorem x187_256 : Rn S 187 256 [.ref q, v1, v2, v3] st I J Q = Rn S 187 257 [.ref q, v1, v2, v3] (.ref q :: st) I J Q := rL f187_256 rfl rfl
theorem x187_257 : Rn S 187 257 [v0, v1, v2, v3] st I J Q = Rn S 187 258 [v0, v1, v2, v3] (.int 0 :: st) I J Q := rS f187_257 rfl
theorem x187_258 : Rn S 187 258 [v0, v1, v2, v3] (.int a0 :: .ref q :: st) I J Q = ((zcls S q = 6 ∧ zcs st ≤ 8) ∧ Rn S 154 0 [.ref q, .int a0, .null, .null, .null] [] I J (fun v I' J' => Rn S 187 261 [v0, v1, v2, v3] (v.toList ++ st) I' J' Q)) := rCV (As := [.int a0]) f187_258 rfl rfl rfl rfl (Nat.le_of_ble_eq_true rfl)
theorem x187_261 : Rn S 187 261 [v0, v1, v2, v3] (.int a :: st) I J Q = Rn S 187 262 [v0, v1, v2, v3] (.long a.toInt64 :: st) I J Q := rS f187_261 rfl
theorem x187_262 : Rn S 187 262 [v0, v1, v2, v3] (.long w :: .long u :: st) I J Q = Rn S 187 263 [v0, v1, v2, v3] (.long (u + w) :: st) I J Q := rS f187_262 rfl
theorem x187_263 : Rn S 187 263 [v0, v1, v2, v3] (.long u :: st) I J Q = Rn S 187 264 [zkl v0, .long u, .null, v3] st I J Q := rL f187_263 rfl rfl
theorem x187_264 : Rn S 187 264 [v0, v1, v2, v3] st I J Q = Rn S 187 267 [v0, v1, v2, v3] (.long 31 :: st) I J Q := rS f187_264 rfl
theorem x187_267 : Rn S 187 267 [v0, .long u, v2, v3] st I J Q = Rn S 187 268 [v0, .long u, v2, v3] (.long u :: st) I J Q := rL f187_267 rfl rfl
theorem x187_268 : Rn S 187 268 [v0, v1, v2, v3] (.long w :: .long u :: st) I J Q = Rn S 187 269 [v0, v1, v2, v3] (.long (u * w) :: st) I J Q := rS f187_268 rfl
theorem x187_269 : Rn S 187 269 [.ref q, v1, v2, v3] st I J Q = Rn S 187 270 [.ref q, v1, v2, v3] (.ref q :: st) I J Q := rL f187_269 rfl rfl
theorem x187_270 : Rn S 187 270 [v0, v1, v2, v3] st I J Q = Rn S 187 271 [v0, v1, v2, v3] (.int 1 :: st) I J Q := rS f187_270 rfl
theorem x187_271 : Rn S 187 271 [v0, v1, v2, v3] (.int a0 :: .ref q :: st) I J Q = ((zcls S q = 6 ∧ zcs st ≤ 8) ∧ Rn S 154 0 [.ref q, .int a0, .null, .null, .null] [] I J (fun v I' J' => Rn S 187 274 [v0, v1, v2, v3] (v.toList ++ st) I' J' Q)) := rCV (As := [.int a0]) f187_271 rfl rfl rfl rfl (Nat.le_of_ble_eq_true rfl)
theorem x187_274 : Rn S 187 274 [v0, v1, v2, v3] (.int a :: st) I J Q = Rn S 187 275 [v0, v1, v2, v3] (.long a.toInt64 :: st) I J Q := rS f187_274 rfl
theorem x187_275 : Rn S 187 275 [v0, v1, v2, v3] (.long w :: .long u :: st) I J Q = Rn S 187 276 [v0, v1, v2, v3] (.long (u + w) :: st) I J Q := rS f187_275 rfl
theorem x187_276 : Rn S 187 276 [v0, v1, v2, v3] (.long u :: st) I J Q = Rn S 187 277 [zkl v0, .long u, .null, v3] st I J Q := rL f187_276 rfl rfl
theorem x187_277 : Rn S 187 277 [v0, v1, v2, v3] st I J Q = Rn S 187 278 [v0, v1, v2, v3] (.int 0 :: st) I J Q := rS f187_277 rfl
theorem x187_278 : Rn S 187 278 [v0, v1, v2, v3] (.int a :: st) I J Q = Rn S 187 279 [v0, v1, zkl v2, .int a] st I J Q := rL f187_278 rfl rfl
theorem h187_279 : Rn S 187 279 [v0, v1, v2, .int a] st I J Q = Rn S 187 280 [v0, v1, v2, .int a] (.int a :: st) I J Q := rL f187_279 rfl rfl
theorem x187_280 : Rn S 187 280 [v0, v1, v2, v3] st I J Q = Rn S 187 281 [v0, v1, v2, v3] (.int 3 :: st) I J Q := rS f187_280 rfl
theorem x187_281 : Rn S 187 281 [v0, v1, v2, v3] (.int b :: .int a :: st) I J Q = if a < b then Rn S 187 284 [v0, v1, v2, v3] st I J Q else Rn S 187 303 [v0, v1, v2, v3] st I J Q := rCge f187_281 rfl rfl
theorem x187_284 : Rn S 187 284 [v0, v1, v2, v3] st I J Q = Rn S 187 287 [v0, v1, v2, v3] (.long 31 :: st) I J Q := rS f187_284 rfl
theorem x187_287 : Rn S 187 287 [v0, .long u, v2, v3] st I J Q = Rn S 187 288 [v0, .long u, v2, v3] (.long u :: st) I J Q := rL f187_287 rfl rfl
theorem x187_288 : Rn S 187 288 [v0, v1, v2, v3] (.long w :: .long u :: st) I J Q = Rn S 187 289 [v0, v1, v2, v3] (.long (u * w) :: st) I J Q := rS f187_288 rfl
theorem x187_289 : Rn S 187 289 [.ref q, v1, v2, v3] st I J Q = Rn S 187 290 [.ref q, v1, v2, v3] (.ref q :: st) I J Q := rL f187_289 rfl rfl
theorem x187_290 : Rn S 187 290 [v0, v1, v2, .int a] st I J Q = Rn S 187 291 [v0, v1, v2, .int a] (.int a :: st) I J Q := rL f187_290 rfl rfl
theorem x187_291 : Rn S 187 291 [v0, v1, v2, v3] (.int a0 :: .ref q :: st) I J Q = ((zcls S q = 6 ∧ zcs st ≤ 8) ∧ Rn S 156 0 [.ref q, .int a0, .null, .null, .null, .null, .null] [] I J (fun v I' J' => Rn S 187 294 [v0, v1, v2, v3] (v.toList ++ st) I' J' Q)) := rCV (As := [.int a0]) f187_291 rfl rfl rfl rfl (Nat.le_of_ble_eq_true rfl)
theorem x187_294 : Rn S 187 294 [v0, v1, v2, v3] (.int a :: st) I J Q = Rn S 187 295 [v0, v1, v2, v3] (.long a.toInt64 :: st) I J Q := rS f187_294 rfl
theorem x187_295 : Rn S 187 295 [v0, v1, v2, v3] (.long w :: .long u :: st) I J Q = Rn S 187 296 [v0, v1, v2, v3] (.long (u + w) :: st) I J Q := rS f187_295 rfl
theorem x187_296 : Rn S 187 296 [v0, v1, v2, v3] (.long u :: st) I J Q = Rn S 187 297 [zkl v0, .long u, .null, v3] st I J Q := rL f187_296 rfl rfl
theorem x187_297 : Rn S 187 297 [v0, v1, v2, .int a] st I J Q = Rn S 187 300 [v0, v1, zkl v2, .int (a + 1)] st I J Q := rL f187_297 rfl rfl
theorem x187_300 : Rn S 187 300 [v0, v1, v2, v3] st I J Q = Rn S 187 279 [v0, v1, v2, v3] st I J Q := rB f187_300 rfl rfl rfl
theorem x187_303 : Rn S 187 303 [v0, v1, v2, v3] st I J Q = Rn S 187 306 [v0, v1, v2, v3] (.long 31 :: st) I J Q := rS f187_303 rfl
theorem x187_306 : Rn S 187 306 [v0, .long u, v2, v3] st I J Q = Rn S 187 307 [v0, .long u, v2, v3] (.long u :: st) I J Q := rL f187_306 rfl rfl
theorem x187_307 : Rn S 187 307 [v0, v1, v2, v3] (.long w :: .long u :: st) I J Q = Rn S 187 308 [v0, v1, v2, v3] (.long (u * w) :: st) I J Q := rS f187_307 rfl
theorem x187_308 : Rn S 187 308 [.ref q, v1, v2, v3] st I J Q = Rn S 187 309 [.ref q, v1, v2, v3] (.ref q :: st) I J Q := rL f187_308 rfl rfl
theorem x187_309 : Rn S 187 309 [v0, v1, v2, v3] (.ref q :: st) I J Q = ((zcls S q = 6 ∧ zcs st ≤ 8) ∧ Rn S 158 0 [.ref q, .null, .null, .null] [] I J (fun v I' J' => Rn S 187 312 [v0, v1, v2, v3] (v.toList ++ st) I' J' Q)) := rCV (As := []) f187_309 rfl rfl rfl rfl (Nat.le_of_ble_eq_true rfl)
theorem x187_312 : Rn S 187 312 [v0, v1, v2, v3] (.int a :: st) I J Q = Rn S 187 313 [v0, v1, v2, v3] (.long a.toInt64 :: st) I J Q := rS f187_312 rfl
theorem x187_313 : Rn S 187 313 [v0, v1, v2, v3] (.long w :: .long u :: st) I J Q = Rn S 187 314 [v0, v1, v2, v3] (.long (u + w) :: st) I J Q := rS f187_313 rfl
theorem x187_314 : Rn S 187 314 [v0, v1, v2, v3] (.long u :: st) I J Q = Rn S 187 315 [zkl v0, .long u, .null, v3] st I J Q := rL f187_314 rfl rfl
theorem x187_315 : Rn S 187 315 [v0, v1, v2, v3] st I J Q = Rn S 187 316 [v0, v1, v2, v3] (.int 0 :: st) I J Q := rS f187_315 rfl
theorem x187_316 : Rn S 187 316 [v0, v1, v2, v3] (.int a :: st) I J Q = Rn S 187 317 [v0, v1, zkl v2, .int a] st I J Q := rL f187_316 rfl rfl
theorem h187_317 : Rn S 187 317 [v0, v1, v2, .int a] st I J Q = Rn S 187 318 [v0, v1, v2, .int a] (.int a :: st) I J Q := rL f187_317 rfl rfl
theorem x187_318 : Rn S 187 318 [v0, v1, v2, v3] st I J Q = Rn S 187 319 [v0, v1, v2, v3] (.int 3 :: st) I J Q := rS f187_318 rfl
theorem x187_319 : Rn S 187 319 [v0, v1, v2, v3] (.int b :: .int a :: st) I J Q = if a < b then Rn S 187 322 [v0, v1, v2, v3] st I J Q else Rn S 187 341 [v0, v1, v2, v3] st I J Q := rCge f187_319 rfl rfl
theorem x187_322 : Rn S 187 322 [v0, v1, v2, v3] st I J Q = Rn S 187 325 [v0, v1, v2, v3] (.long 31 :: st) I J Q := rS f187_322 rfl
theorem x187_325 : Rn S 187 325 [v0, .long u, v2, v3] st I J Q = Rn S 187 326 [v0, .long u, v2, v3] (.long u :: st) I J Q := rL f187_325 rfl rfl
theorem x187_326 : Rn S 187 326 [v0, v1, v2, v3] (.long w :: .long u :: st) I J Q = Rn S 187 327 [v0, v1, v2, v3] (.long (u * w) :: st) I J Q := rS f187_326 rfl
theorem x187_327 : Rn S 187 327 [.ref q, v1, v2, v3] st I J Q = Rn S 187 328 [.ref q, v1, v2, v3] (.ref q :: st) I J Q := rL f187_327 rfl rfl
theorem x187_328 : Rn S 187 328 [v0, v1, v2, .int a] st I J Q = Rn S 187 329 [v0, v1, v2, .int a] (.int a :: st) I J Q := rL f187_328 rfl rfl
theorem x187_329 : Rn S 187 329 [v0, v1, v2, v3] (.int a0 :: .ref q :: st) I J Q = ((zcls S q = 6 ∧ zcs st ≤ 8) ∧ Rn S 161 0 [.ref q, .int a0, .null, .null, .null, .null, .null] [] I J (fun v I' J' => Rn S 187 332 [v0, v1, v2, v3] (v.toList ++ st) I' J' Q)) := rCV (As := [.int a0]) f187_329 rfl rfl rfl rfl (Nat.le_of_ble_eq_true rfl)
theorem x187_332 : Rn S 187 332 [v0, v1, v2, v3] (.int a :: st) I J Q = Rn S 187 333 [v0, v1, v2, v3] (.long a.toInt64 :: st) I J Q := rS f187_332 rfl
theorem x187_333 : Rn S 187 333 [v0, v1, v2, v3] (.long w :: .long u :: st) I J Q = Rn S 187 334 [v0, v1, v2, v3] (.long (u + w) :: st) I J Q := rS f187_333 rfl
theorem x187_334 : Rn S 187 334 [v0, v1, v2, v3] (.long u :: st) I J Q = Rn S 187 335 [zkl v0, .long u, .null, v3] st I J Q := rL f187_334 rfl rfl
theorem x187_335 : Rn S 187 335 [v0, v1, v2, .int a] st I J Q = Rn S 187 338 [v0, v1, zkl v2, .int (a + 1)] st I J Q := rL f187_335 rfl rfl
theorem x187_338 : Rn S 187 338 [v0, v1, v2, v3] st I J Q = Rn S 187 317 [v0, v1, v2, v3] st I J Q := rB f187_338 rfl rfl rfl
theorem x187_341 : Rn S 187 341 [v0, v1, v2, v3] st I J Q = Rn S 187 344 [v0, v1, v2, v3] (.long 31 :: st) I J Q := rS f187_341 rfl
theorem x187_344 : Rn S 187 344 [v0, .long u, v2, v3] st I J Q = Rn S 187 345 [v0, .long u, v2, v3] (.long u :: st) I J Q := rL f187_344 rfl rfl
theorem x187_345 : Rn S 187 345 [v0, v1, v2, v3] (.long w :: .long u :: st) I J Q = Rn S 187 346 [v0, v1, v2, v3] (.long (u * w) :: st) I J Q := rS f187_345 rfl
theorem x187_346 : Rn S 187 346 [.ref q, v1, v2, v3] st I J Q = Rn S 187 347 [.ref q, v1, v2, v3] (.ref q :: st) I J Q := rL f187_346 rfl rfl
theorem x187_347 : Rn S 187 347 [v0, v1, v2, v3] st I J Q = Rn S 187 348 [v0, v1, v2, v3] (.int (-1) :: st) I J Q := rS f187_347 rfl
theorem x187_348 : Rn S 187 348 [v0, v1, v2, v3] (.int a0 :: .ref q :: st) I J Q = ((zcls S q = 6 ∧ zcs st ≤ 8) ∧ Rn S 164 0 [.ref q, .int a0, .null, .null] [] I J (fun v I' J' => Rn S 187 351 [v0, v1, v2, v3] (v.toList ++ st) I' J' Q)) := rCV (As := [.int a0]) f187_348 rfl rfl rfl rfl (Nat.le_of_ble_eq_true rfl)
theorem x187_351 : Rn S 187 351 [v0, v1, v2, v3] (.int a :: st) I J Q = Rn S 187 352 [v0, v1, v2, v3] (.long a.toInt64 :: st) I J Q := rS f187_351 rfl
theorem x187_352 : Rn S 187 352 [v0, v1, v2, v3] (.long w :: .long u :: st) I J Q = Rn S 187 353 [v0, v1, v2, v3] (.long (u + w) :: st) I J Q := rS f187_352 rfl
theorem x187_353 : Rn S 187 353 [v0, v1, v2, v3] (.long u :: st) I J Q = Rn S 187 354 [zkl v0, .long u, .null, v3] st I J Q := rL f187_353 rfl rfl
theorem x187_354 : Rn S 187 354 [v0, v1, v2, v3] st I J Q = Rn S 187 357 [v0, v1, v2, v3] (.long 31 :: st) I J Q := rS f187_354 rfl
theorem x187_357 : Rn S 187 357 [v0, .long u, v2, v3] st I J Q = Rn S 187 358 [v0, .long u, v2, v3] (.long u :: st) I J Q := rL f187_357 rfl rfl
theorem x187_358 : Rn S 187 358 [v0, v1, v2, v3] (.long w :: .long u :: st) I J Q = Rn S 187 359 [v0, v1, v2, v3] (.long (u * w) :: st) I J Q := rS f187_358 rfl
theorem x187_359 : Rn S 187 359 [.ref q, v1, v2, v3] st I J Q = Rn S 187 360 [.ref q, v1, v2, v3] (.ref q :: st) I J Q := rL f187_359 rfl rfl
theorem x187_360 : Rn S 187 360 [v0, v1, v2, v3] st I J Q = Rn S 187 361 [v0, v1, v2, v3] (.int 0 :: st) I J Q := rS f187_360 rfl
theorem x187_361 : Rn S 187 361 [v0, v1, v2, v3] (.int a0 :: .ref q :: st) I J Q = ((zcls S q = 6 ∧ zcs st ≤ 8) ∧ Rn S 164 0 [.ref q, .int a0, .null, .null] [] I J (fun v I' J' => Rn S 187 364 [v0, v1, v2, v3] (v.toList ++ st) I' J' Q)) := rCV (As := [.int a0]) f187_361 rfl rfl rfl rfl (Nat.le_of_ble_eq_true rfl)
theorem x187_364 : Rn S 187 364 [v0, v1, v2, v3] (.int a :: st) I J Q = Rn S 187 365 [v0, v1, v2, v3] (.long a.toInt64 :: st) I J Q := rS f187_364 rfl
theorem x187_365 : Rn S 187 365 [v0, v1, v2, v3] (.long w :: .long u :: st) I J Q = Rn S 187 366 [v0, v1, v2, v3] (.long (u + w) :: st) I J Q := rS f187_365 rfl
theorem x187_366 : Rn S 187 366 [v0, v1, v2, v3] (.long u :: st) I J Q = Rn S 187 367 [zkl v0, .long u, .null, v3] st I J Q := rL f187_366 rfl rfl
theorem x187_367 : Rn S 187 367 [v0, v1, v2, v3] st I J Q = Rn S 187 370 [v0, v1, v2, v3] (.long 31 :: st) I J Q := rS f187_367 rfl
theorem x187_370 : Rn S 187 370 [v0, .long u, v2, v3] st I J Q = Rn S 187 371 [v0, .long u, v2, v3] (.long u :: st) I J Q := rL f187_370 rfl rfl
theorem x187_371 : Rn S 187 371 [v0, v1, v2, v3] (.long w :: .long u :: st) I J Q = Rn S 187 372 [v0, v1, v2, v3] (.long (u * w) :: st) I J Q := rS f187_371 rfl
theorem x187_372 : Rn S 187 372 [.ref q, v1, v2, v3] st I J Q = Rn S 187 373 [.ref q, v1, v2, v3] (.ref q :: st) I J Q := rL f187_372 rfl rfl
theorem x187_373 : Rn S 187 373 [v0, v1, v2, v3] (.ref q :: st) I J Q = ((zcls S q = 6 ∧ zcs st ≤ 8) ∧ Rn S 169 0 [.ref q, .null, .null] [] I J (fun v I' J' => Rn S 187 376 [v0, v1, v2, v3] (v.toList ++ st) I' J' Q)) := rCV (As := []) f187_373 rfl rfl rfl rfl (Nat.le_of_ble_eq_true rfl)
theorem x187_376 : Rn S 187 376 [v0, v1, v2, v3] (.int a :: st) I J Q = Rn S 187 377 [v0, v1, v2, v3] (.long a.toInt64 :: st) I J Q := rS f187_376 rfl
theorem x187_377 : Rn S 187 377 [v0, v1, v2, v3] (.long w :: .long u :: st) I J Q = Rn S 187 378 [v0, v1, v2, v3] (.long (u + w) :: st) I J Q := rS f187_377 rfl
theorem x187_378 : Rn S 187 378 [v0, v1, v2, v3] (.long u :: st) I J Q = Rn S 187 379 [zkl v0, .long u, .null, v3] st I J Q := rL f187_378 rfl rfl
theorem x187_379 : Rn S 187 379 [v0, v1, v2, v3] st I J Q = Rn S 187 382 [v0, v1, v2, v3] (.long 31 :: st) I J Q := rS f187_379 rfl
theorem x187_382 : Rn S 187 382 [v0, .long u, v2, v3] st I J Q = Rn S 187 383 [v0, .long u, v2, v3] (.long u :: st) I J Q := rL f187_382 rfl rfl
theorem x187_383 : Rn S 187 383 [v0, v1, v2, v3] (.long w :: .long u :: st) I J Q = Rn S 187 384 [v0, v1, v2, v3] (.long (u * w) :: st) I J Q := rS f187_383 rfl
theorem x187_384 : Rn S 187 384 [.ref q, v1, v2, v3] st I J Q = Rn S 187 385 [.ref q, v1, v2, v3] (.ref q :: st) I J Q := rL f187_384 rfl rfl
theorem x187_385 : Rn S 187 385 [v0, v1, v2, v3] st I J Q = Rn S 187 387 [v0, v1, v2, v3] (.int 7 :: st) I J Q := rS f187_385 rfl
theorem x187_387 : Rn S 187 387 [v0, v1, v2, v3] st I J Q = Rn S 187 389 [v0, v1, v2, v3] (.int 12 :: st) I J Q := rS f187_387 rfl
theorem x187_389 : Rn S 187 389 [v0, v1, v2, v3] st I J Q = Rn S 187 390 [v0, v1, v2, v3] (.int 0 :: st) I J Q := rS f187_389 rfl
theorem x187_390 : Rn S 187 390 [v0, v1, v2, v3] (.int a2 :: .int a1 :: .int a0 :: .ref q :: st) I J Q = ((zcls S q = 6 ∧ zcs st ≤ 8) ∧ Rn S 181 0 [.ref q, .int a0, .int a1, .int a2, .null] [] I J (fun v I' J' => Rn S 187 393 [v0, v1, v2, v3] (v.toList ++ st) I' J' Q)) := rCV (As := [.int a0, .int a1, .int a2]) f187_390 rfl rfl rfl rfl (Nat.le_of_ble_eq_true rfl)
theorem x187_393 : Rn S 187 393 [v0, v1, v2, v3] (.int a :: st) I J Q = Rn S 187 394 [v0, v1, v2, v3] (.long a.toInt64 :: st) I J Q := rS f187_393 rfl
theorem x187_394 : Rn S 187 394 [v0, v1, v2, v3] (.long w :: .long u :: st) I J Q = Rn S 187 395 [v0, v1, v2, v3] (.long (u + w) :: st) I J Q := rS f187_394 rfl
theorem x187_395 : Rn S 187 395 [v0, v1, v2, v3] (.long u :: st) I J Q = Rn S 187 396 [zkl v0, .long u, .null, v3] st I J Q := rL f187_395 rfl rfl
theorem x187_396 : Rn S 187 396 [v0, v1, v2, v3] st I J Q = Rn S 187 399 [v0, v1, v2, v3] (.long 31 :: st) I J Q := rS f187_396 rfl
theorem x187_399 : Rn S 187 399 [v0, .long u, v2, v3] st I J Q = Rn S 187 400 [v0, .long u, v2, v3] (.long u :: st) I J Q := rL f187_399 rfl rfl
theorem x187_400 : Rn S 187 400 [v0, v1, v2, v3] (.long w :: .long u :: st) I J Q = Rn S 187 401 [v0, v1, v2, v3] (.long (u * w) :: st) I J Q := rS f187_400 rfl
theorem x187_401 : Rn S 187 401 [.ref q, v1, v2, v3] st I J Q = Rn S 187 402 [.ref q, v1, v2, v3] (.ref q :: st) I J Q := rL f187_401 rfl rfl
theorem x187_402 : Rn S 187 402 [v0, v1, v2, v3] st I J Q = Rn S 187 404 [v0, v1, v2, v3] (.int 7 :: st) I J Q := rS f187_402 rfl
theorem x187_404 : Rn S 187 404 [v0, v1, v2, v3] st I J Q = Rn S 187 406 [v0, v1, v2, v3] (.int 12 :: st) I J Q := rS f187_404 rfl
theorem x187_406 : Rn S 187 406 [v0, v1, v2, v3] st I J Q = Rn S 187 407 [v0, v1, v2, v3] (.int 1 :: st) I J Q := rS f187_406 rfl
theorem x187_407 : Rn S 187 407 [v0, v1, v2, v3] (.int a2 :: .int a1 :: .int a0 :: .ref q :: st) I J Q = ((zcls S q = 6 ∧ zcs st ≤ 8) ∧ Rn S 181 0 [.ref q, .int a0, .int a1, .int a2, .null] [] I J (fun v I' J' => Rn S 187 410 [v0, v1, v2, v3] (v.toList ++ st) I' J' Q)) := rCV (As := [.int a0, .int a1, .int a2]) f187_407 rfl rfl rfl rfl (Nat.le_of_ble_eq_true rfl)
theorem x187_410 : Rn S 187 410 [v0, v1, v2, v3] (.int a :: st) I J Q = Rn S 187 411 [v0, v1, v2, v3] (.long a.toInt64 :: st) I J Q := rS f187_410 rfl
theorem x187_411 : Rn S 187 411 [v0, v1, v2, v3] (.long w :: .long u :: st) I J Q = Rn S 187 412 [v0, v1, v2, v3] (.long (u + w) :: st) I J Q := rS f187_411 rfl
theorem x187_412 : Rn S 187 412 [v0, v1, v2, v3] [.long u] I J Q = Q (some (.long u)) I J := rR f187_412 rfl rfl rfl rfl rfl
end

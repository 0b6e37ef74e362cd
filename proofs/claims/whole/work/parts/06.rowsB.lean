section
variable {S : zSg} {I : zI} {J : zJ} {Q : zQ} {st : List Value} {v0 v1 v2 v3 v4 v5 v6 v7 v8 v9 v10 v11 v12 v13 v14 v15 : Value} {a b c a0 a1 a2 a3 a4 a5 : Int32} {u w u0 u1 : Int64} {q r q0 q1 q2 xl : Nat}
/-! X5.type: 37 -/
theorem B37 : zB 37 = cX5_type := rfl
theorem f37_0 : zft 37 0 = some (.iload_n 1, 1) := fet B37 (by decide +kernel) (Or.inr rfl)
theorem f37_1 : zft 37 1 = some (.iconst 3, 1) := fet B37 (by decide +kernel) (Or.inr rfl)
theorem f37_2 : zft 37 2 = some (.invokestatic 72, 3) := fet B37 (by decide +kernel) (Or.inr rfl)
theorem f37_5 : zft 37 5 = some (.ifCond .eq 13, 3) := fet B37 (by decide +kernel) (Or.inr rfl)
theorem f37_8 : zft 37 8 = some (.iload_n 2, 1) := fet B37 (by decide +kernel) (Or.inr rfl)
theorem f37_9 : zft 37 9 = some (.sipush 256, 3) := fet B37 (by decide +kernel) (Or.inr rfl)
theorem f37_12 : zft 37 12 = some (.invokestatic 72, 3) := fet B37 (by decide +kernel) (Or.inr rfl)
theorem f37_15 : zft 37 15 = some (.ifCond .ne 6, 3) := fet B37 (by decide +kernel) (Or.inr rfl)
theorem f37_18 : zft 37 18 = some (.bipush (-2), 2) := fet B37 (by decide +kernel) (Or.inr rfl)
theorem f37_20 : zft 37 20 = some (.ireturn, 1) := fet B37 (by decide +kernel) (Or.inr rfl)
theorem f37_21 : zft 37 21 = some (.aload_n 0, 1) := fet B37 (by decide +kernel) (Or.inr rfl)
theorem f37_22 : zft 37 22 = some (.getfield 20, 3) := fet B37 (by decide +kernel) (Or.inr rfl)
theorem f37_25 : zft 37 25 = some (.iload_n 1, 1) := fet B37 (by decide +kernel) (Or.inr rfl)
theorem f37_26 : zft 37 26 = some (.aaload, 1) := fet B37 (by decide +kernel) (Or.inr rfl)
theorem f37_27 : zft 37 27 = some (.astore_n 3, 1) := fet B37 (by decide +kernel) (Or.inr rfl)
theorem f37_28 : zft 37 28 = some (.aload_n 3, 1) := fet B37 (by decide +kernel) (Or.inr rfl)
theorem f37_29 : zft 37 29 = some (.getfield 76, 3) := fet B37 (by decide +kernel) (Or.inr rfl)
theorem f37_32 : zft 37 32 = some (.aload_n 3, 1) := fet B37 (by decide +kernel) (Or.inr rfl)
theorem f37_33 : zft 37 33 = some (.getfield 80, 3) := fet B37 (by decide +kernel) (Or.inr rfl)
theorem f37_36 : zft 37 36 = some (.arraylength, 1) := fet B37 (by decide +kernel) (Or.inr rfl)
theorem f37_37 : zft 37 37 = some (.if_icmp .lt 6, 3) := fet B37 (by decide +kernel) (Or.inr rfl)
theorem f37_40 : zft 37 40 = some (.bipush (-4), 2) := fet B37 (by decide +kernel) (Or.inr rfl)
theorem f37_42 : zft 37 42 = some (.ireturn, 1) := fet B37 (by decide +kernel) (Or.inr rfl)
theorem f37_43 : zft 37 43 = some (.aload_n 3, 1) := fet B37 (by decide +kernel) (Or.inr rfl)
theorem f37_44 : zft 37 44 = some (.getfield 80, 3) := fet B37 (by decide +kernel) (Or.inr rfl)
theorem f37_47 : zft 37 47 = some (.aload_n 3, 1) := fet B37 (by decide +kernel) (Or.inr rfl)
theorem f37_48 : zft 37 48 = some (.getfield 76, 3) := fet B37 (by decide +kernel) (Or.inr rfl)
theorem f37_51 : zft 37 51 = some (.iload_n 2, 1) := fet B37 (by decide +kernel) (Or.inr rfl)
theorem f37_52 : zft 37 52 = some (.iastore, 1) := fet B37 (by decide +kernel) (Or.inr rfl)
theorem f37_53 : zft 37 53 = some (.aload_n 3, 1) := fet B37 (by decide +kernel) (Or.inr rfl)
theorem f37_54 : zft 37 54 = some (.dup, 1) := fet B37 (by decide +kernel) (Or.inr rfl)
theorem f37_55 : zft 37 55 = some (.getfield 76, 3) := fet B37 (by decide +kernel) (Or.inr rfl)
theorem f37_58 : zft 37 58 = some (.iconst 1, 1) := fet B37 (by decide +kernel) (Or.inr rfl)
theorem f37_59 : zft 37 59 = some (.iadd, 1) := fet B37 (by decide +kernel) (Or.inr rfl)
theorem f37_60 : zft 37 60 = some (.putfield 76, 3) := fet B37 (by decide +kernel) (Or.inr rfl)
theorem f37_63 : zft 37 63 = some (.aload_n 0, 1) := fet B37 (by decide +kernel) (Or.inr rfl)
theorem f37_64 : zft 37 64 = some (.invokevirtual 83, 3) := fet B37 (by decide +kernel) (Or.inr rfl)
theorem f37_67 : zft 37 67 = some (.aload_n 3, 1) := fet B37 (by decide +kernel) (Or.inr rfl)
theorem f37_68 : zft 37 68 = some (.getfield 76, 3) := fet B37 (by decide +kernel) (Or.inr rfl)
theorem f37_71 : zft 37 71 = some (.ireturn, 1) := fet B37 (by decide +kernel) (Or.inr rfl)
theorem x37_0 : Rn S 37 0 [v0, .int a, v2, v3] st I J Q = Rn S 37 1 [v0, .int a, v2, v3] (.int a :: st) I J Q := rL f37_0 rfl rfl
theorem x37_1 : Rn S 37 1 [v0, v1, v2, v3] st I J Q = Rn S 37 2 [v0, v1, v2, v3] (.int 3 :: st) I J Q := rS f37_1 rfl
theorem x37_2 : Rn S 37 2 [v0, v1, v2, v3] (.int a1 :: .int a0 :: st) I J Q = (zcs st ≤ 8 ∧ Rn S 81 0 [.int a0, .int a1] [] I J (fun v I' J' => Rn S 37 5 [v0, v1, v2, v3] (v.toList ++ st) I' J' Q)) := rCS (As := [.int a0, .int a1]) f37_2 rfl rfl rfl rfl (Nat.le_of_ble_eq_true rfl)
theorem x37_5 : Rn S 37 5 [v0, v1, v2, v3] (.int a :: st) I J Q = if a = 0 then Rn S 37 18 [v0, v1, v2, v3] st I J Q else Rn S 37 8 [v0, v1, v2, v3] st I J Q := rIeq f37_5 rfl rfl
theorem x37_8 : Rn S 37 8 [v0, v1, .int a, v3] st I J Q = Rn S 37 9 [v0, v1, .int a, v3] (.int a :: st) I J Q := rL f37_8 rfl rfl
theorem x37_9 : Rn S 37 9 [v0, v1, v2, v3] st I J Q = Rn S 37 12 [v0, v1, v2, v3] (.int 256 :: st) I J Q := rS f37_9 rfl
theorem x37_12 : Rn S 37 12 [v0, v1, v2, v3] (.int a1 :: .int a0 :: st) I J Q = (zcs st ≤ 8 ∧ Rn S 81 0 [.int a0, .int a1] [] I J (fun v I' J' => Rn S 37 15 [v0, v1, v2, v3] (v.toList ++ st) I' J' Q)) := rCS (As := [.int a0, .int a1]) f37_12 rfl rfl rfl rfl (Nat.le_of_ble_eq_true rfl)
theorem x37_15 : Rn S 37 15 [v0, v1, v2, v3] (.int a :: st) I J Q = if a = 0 then Rn S 37 18 [v0, v1, v2, v3] st I J Q else Rn S 37 21 [v0, v1, v2, v3] st I J Q := rIne f37_15 rfl rfl
theorem x37_18 : Rn S 37 18 [v0, v1, v2, v3] st I J Q = Rn S 37 20 [v0, v1, v2, v3] (.int (-2) :: st) I J Q := rS f37_18 rfl
theorem x37_20 : Rn S 37 20 [v0, v1, v2, v3] [.int a] I J Q = Q (some (.int a)) I J := rR f37_20 rfl rfl rfl rfl rfl
theorem x37_21 : Rn S 37 21 [.ref q, v1, v2, v3] st I J Q = Rn S 37 22 [.ref q, v1, v2, v3] (.ref q :: st) I J Q := rL f37_21 rfl rfl
theorem x37_22_0 : Rn (zG xl) 37 22 [v0, v1, v2, v3] (.ref 0 :: st) I J Q = Rn (zG xl) 37 25 [v0, v1, v2, v3] (.ref 1 :: st) I J Q := (rGf f37_22 rfl).trans (tr_and rfl)
theorem x37_25 : Rn S 37 25 [v0, .int a, v2, v3] st I J Q = Rn S 37 26 [v0, .int a, v2, v3] (.int a :: st) I J Q := rL f37_25 rfl rfl
theorem x37_26 : Rn S 37 26 [v0, v1, v2, v3] (.int a :: .ref q :: st) I J Q = (zar S q a ∧ Rn S 37 27 [v0, v1, v2, v3] (zra S q a.toNatClampNeg :: st) I J Q) := rAal f37_26
theorem x37_27 : Rn S 37 27 [v0, v1, v2, v3] (.ref q :: st) I J Q = Rn S 37 28 [v0, v1, zkl v2, .ref q] st I J Q := rL f37_27 rfl rfl
theorem x37_28 : Rn S 37 28 [v0, v1, v2, .ref q] st I J Q = Rn S 37 29 [v0, v1, v2, .ref q] (.ref q :: st) I J Q := rL f37_28 rfl rfl
theorem x37_29_2 : Rn (zG xl) 37 29 [v0, v1, v2, v3] (.ref 2 :: st) I J Q = Rn (zG xl) 37 32 [v0, v1, v2, v3] (.int (I 2 3) :: st) I J Q := (rGf f37_29 rfl).trans (tr_and rfl)
theorem x37_29_4 : Rn (zG xl) 37 29 [v0, v1, v2, v3] (.ref 4 :: st) I J Q = Rn (zG xl) 37 32 [v0, v1, v2, v3] (.int (I 4 3) :: st) I J Q := (rGf f37_29 rfl).trans (tr_and rfl)
theorem x37_29_6 : Rn (zG xl) 37 29 [v0, v1, v2, v3] (.ref 6 :: st) I J Q = Rn (zG xl) 37 32 [v0, v1, v2, v3] (.int (I 6 3) :: st) I J Q := (rGf f37_29 rfl).trans (tr_and rfl)
theorem x37_32 : Rn S 37 32 [v0, v1, v2, .ref q] st I J Q = Rn S 37 33 [v0, v1, v2, .ref q] (.ref q :: st) I J Q := rL f37_32 rfl rfl
theorem x37_33_2 : Rn (zG xl) 37 33 [v0, v1, v2, v3] (.ref 2 :: st) I J Q = Rn (zG xl) 37 36 [v0, v1, v2, v3] (.ref 3 :: st) I J Q := (rGf f37_33 rfl).trans (tr_and rfl)
theorem x37_33_4 : Rn (zG xl) 37 33 [v0, v1, v2, v3] (.ref 4 :: st) I J Q = Rn (zG xl) 37 36 [v0, v1, v2, v3] (.ref 5 :: st) I J Q := (rGf f37_33 rfl).trans (tr_and rfl)
theorem x37_33_6 : Rn (zG xl) 37 33 [v0, v1, v2, v3] (.ref 6 :: st) I J Q = Rn (zG xl) 37 36 [v0, v1, v2, v3] (.ref 7 :: st) I J Q := (rGf f37_33 rfl).trans (tr_and rfl)
theorem x37_36 : Rn S 37 36 [v0, v1, v2, v3] (.ref q :: st) I J Q = (¬ zkd S q = 99 ∧ Rn S 37 37 [v0, v1, v2, v3] (.int (Int32.ofNat (zln S q)) :: st) I J Q) := rAln f37_36
theorem x37_37 : Rn S 37 37 [v0, v1, v2, v3] (.int b :: .int a :: st) I J Q = if a < b then Rn S 37 43 [v0, v1, v2, v3] st I J Q else Rn S 37 40 [v0, v1, v2, v3] st I J Q := rClt f37_37 rfl rfl
theorem x37_40 : Rn S 37 40 [v0, v1, v2, v3] st I J Q = Rn S 37 42 [v0, v1, v2, v3] (.int (-4) :: st) I J Q := rS f37_40 rfl
theorem x37_42 : Rn S 37 42 [v0, v1, v2, v3] [.int a] I J Q = Q (some (.int a)) I J := rR f37_42 rfl rfl rfl rfl rfl
theorem x37_43 : Rn S 37 43 [v0, v1, v2, .ref q] st I J Q = Rn S 37 44 [v0, v1, v2, .ref q] (.ref q :: st) I J Q := rL f37_43 rfl rfl
theorem x37_44_2 : Rn (zG xl) 37 44 [v0, v1, v2, v3] (.ref 2 :: st) I J Q = Rn (zG xl) 37 47 [v0, v1, v2, v3] (.ref 3 :: st) I J Q := (rGf f37_44 rfl).trans (tr_and rfl)
theorem x37_44_4 : Rn (zG xl) 37 44 [v0, v1, v2, v3] (.ref 4 :: st) I J Q = Rn (zG xl) 37 47 [v0, v1, v2, v3] (.ref 5 :: st) I J Q := (rGf f37_44 rfl).trans (tr_and rfl)
theorem x37_44_6 : Rn (zG xl) 37 44 [v0, v1, v2, v3] (.ref 6 :: st) I J Q = Rn (zG xl) 37 47 [v0, v1, v2, v3] (.ref 7 :: st) I J Q := (rGf f37_44 rfl).trans (tr_and rfl)
theorem x37_47 : Rn S 37 47 [v0, v1, v2, .ref q] st I J Q = Rn S 37 48 [v0, v1, v2, .ref q] (.ref q :: st) I J Q := rL f37_47 rfl rfl
theorem x37_48_2 : Rn (zG xl) 37 48 [v0, v1, v2, v3] (.ref 2 :: st) I J Q = Rn (zG xl) 37 51 [v0, v1, v2, v3] (.int (I 2 3) :: st) I J Q := (rGf f37_48 rfl).trans (tr_and rfl)
theorem x37_48_4 : Rn (zG xl) 37 48 [v0, v1, v2, v3] (.ref 4 :: st) I J Q = Rn (zG xl) 37 51 [v0, v1, v2, v3] (.int (I 4 3) :: st) I J Q := (rGf f37_48 rfl).trans (tr_and rfl)
theorem x37_48_6 : Rn (zG xl) 37 48 [v0, v1, v2, v3] (.ref 6 :: st) I J Q = Rn (zG xl) 37 51 [v0, v1, v2, v3] (.int (I 6 3) :: st) I J Q := (rGf f37_48 rfl).trans (tr_and rfl)
theorem x37_51 : Rn S 37 51 [v0, v1, .int a, v3] st I J Q = Rn S 37 52 [v0, v1, .int a, v3] (.int a :: st) I J Q := rL f37_51 rfl rfl
theorem x37_52 : Rn S 37 52 [v0, v1, v2, v3] (.int b :: .int a :: .ref q :: st) I J Q = (zas S q a ∧ Rn S 37 53 [v0, v1, v2, v3] st (zr I q (upd (I q) a.toNatClampNeg b)) J Q) := rIas f37_52
theorem x37_53 : Rn S 37 53 [v0, v1, v2, .ref q] st I J Q = Rn S 37 54 [v0, v1, v2, .ref q] (.ref q :: st) I J Q := rL f37_53 rfl rfl
theorem x37_54i : Rn S 37 54 [v0, v1, v2, v3] (.int a :: st) I J Q = Rn S 37 55 [v0, v1, v2, v3] (.int a :: .int a :: st) I J Q := rS f37_54 rfl
theorem x37_54r : Rn S 37 54 [v0, v1, v2, v3] (.ref q :: st) I J Q = Rn S 37 55 [v0, v1, v2, v3] (.ref q :: .ref q :: st) I J Q := rS f37_54 rfl
theorem x37_55_2 : Rn (zG xl) 37 55 [v0, v1, v2, v3] (.ref 2 :: st) I J Q = Rn (zG xl) 37 58 [v0, v1, v2, v3] (.int (I 2 3) :: st) I J Q := (rGf f37_55 rfl).trans (tr_and rfl)
theorem x37_55_4 : Rn (zG xl) 37 55 [v0, v1, v2, v3] (.ref 4 :: st) I J Q = Rn (zG xl) 37 58 [v0, v1, v2, v3] (.int (I 4 3) :: st) I J Q := (rGf f37_55 rfl).trans (tr_and rfl)
theorem x37_55_6 : Rn (zG xl) 37 55 [v0, v1, v2, v3] (.ref 6 :: st) I J Q = Rn (zG xl) 37 58 [v0, v1, v2, v3] (.int (I 6 3) :: st) I J Q := (rGf f37_55 rfl).trans (tr_and rfl)
theorem x37_58 : Rn S 37 58 [v0, v1, v2, v3] st I J Q = Rn S 37 59 [v0, v1, v2, v3] (.int 1 :: st) I J Q := rS f37_58 rfl
theorem x37_59 : Rn S 37 59 [v0, v1, v2, v3] (.int b :: .int a :: st) I J Q = Rn S 37 60 [v0, v1, v2, v3] (.int (a + b) :: st) I J Q := rS f37_59 rfl
theorem x37_60_2 : Rn (zG xl) 37 60 [v0, v1, v2, v3] (.int a :: .ref 2 :: st) I J Q = Rn (zG xl) 37 63 [v0, v1, v2, v3] st (zr I 2 (upd (I 2) 3 a)) J Q := (rPf f37_60 rfl).trans (tr_pf rfl rfl rfl)
theorem x37_60_4 : Rn (zG xl) 37 60 [v0, v1, v2, v3] (.int a :: .ref 4 :: st) I J Q = Rn (zG xl) 37 63 [v0, v1, v2, v3] st (zr I 4 (upd (I 4) 3 a)) J Q := (rPf f37_60 rfl).trans (tr_pf rfl rfl rfl)
theorem x37_60_6 : Rn (zG xl) 37 60 [v0, v1, v2, v3] (.int a :: .ref 6 :: st) I J Q = Rn (zG xl) 37 63 [v0, v1, v2, v3] st (zr I 6 (upd (I 6) 3 a)) J Q := (rPf f37_60 rfl).trans (tr_pf rfl rfl rfl)
theorem x37_63 : Rn S 37 63 [.ref q, v1, v2, v3] st I J Q = Rn S 37 64 [.ref q, v1, v2, v3] (.ref q :: st) I J Q := rL f37_63 rfl rfl
theorem x37_64 : Rn S 37 64 [v0, v1, v2, v3] (.ref q :: st) I J Q = ((zcls S q = 5 ∧ zcs st ≤ 8) ∧ Rn S 84 0 [.ref q] [] I J (fun v I' J' => Rn S 37 67 [v0, v1, v2, v3] (v.toList ++ st) I' J' Q)) := rCV (As := []) f37_64 rfl rfl rfl rfl (Nat.le_of_ble_eq_true rfl)
theorem x37_67 : Rn S 37 67 [v0, v1, v2, .ref q] st I J Q = Rn S 37 68 [v0, v1, v2, .ref q] (.ref q :: st) I J Q := rL f37_67 rfl rfl
theorem x37_68_2 : Rn (zG xl) 37 68 [v0, v1, v2, v3] (.ref 2 :: st) I J Q = Rn (zG xl) 37 71 [v0, v1, v2, v3] (.int (I 2 3) :: st) I J Q := (rGf f37_68 rfl).trans (tr_and rfl)
theorem x37_68_4 : Rn (zG xl) 37 68 [v0, v1, v2, v3] (.ref 4 :: st) I J Q = Rn (zG xl) 37 71 [v0, v1, v2, v3] (.int (I 4 3) :: st) I J Q := (rGf f37_68 rfl).trans (tr_and rfl)
theorem x37_68_6 : Rn (zG xl) 37 68 [v0, v1, v2, v3] (.ref 6 :: st) I J Q = Rn (zG xl) 37 71 [v0, v1, v2, v3] (.int (I 6 3) :: st) I J Q := (rGf f37_68 rfl).trans (tr_and rfl)
theorem x37_71 : Rn S 37 71 [v0, v1, v2, v3] [.int a] I J Q = Q (some (.int a)) I J := rR f37_71 rfl rfl rfl rfl rfl
/-! X5.wipe: 38 -/
theorem B38 : zB 38 = cX5_wipe := rfl
theorem f38_0 : zft 38 0 = some (.iload_n 1, 1) := fet B38 (by decide +kernel) (Or.inr rfl)
theorem f38_1 : zft 38 1 = some (.iconst 3, 1) := fet B38 (by decide +kernel) (Or.inr rfl)
theorem f38_2 : zft 38 2 = some (.invokestatic 72, 3) := fet B38 (by decide +kernel) (Or.inr rfl)
theorem f38_5 : zft 38 5 = some (.ifCond .ne 6, 3) := fet B38 (by decide +kernel) (Or.inr rfl)
theorem f38_8 : zft 38 8 = some (.bipush (-2), 2) := fet B38 (by decide +kernel) (Or.inr rfl)
theorem f38_10 : zft 38 10 = some (.ireturn, 1) := fet B38 (by decide +kernel) (Or.inr rfl)
theorem f38_11 : zft 38 11 = some (.aload_n 0, 1) := fet B38 (by decide +kernel) (Or.inr rfl)
theorem f38_12 : zft 38 12 = some (.getfield 20, 3) := fet B38 (by decide +kernel) (Or.inr rfl)
theorem f38_15 : zft 38 15 = some (.iload_n 1, 1) := fet B38 (by decide +kernel) (Or.inr rfl)
theorem f38_16 : zft 38 16 = some (.aaload, 1) := fet B38 (by decide +kernel) (Or.inr rfl)
theorem f38_17 : zft 38 17 = some (.getfield 76, 3) := fet B38 (by decide +kernel) (Or.inr rfl)
theorem f38_20 : zft 38 20 = some (.istore_n 2, 1) := fet B38 (by decide +kernel) (Or.inr rfl)
theorem f38_21 : zft 38 21 = some (.aload_n 0, 1) := fet B38 (by decide +kernel) (Or.inr rfl)
theorem f38_22 : zft 38 22 = some (.getfield 20, 3) := fet B38 (by decide +kernel) (Or.inr rfl)
theorem f38_25 : zft 38 25 = some (.iload_n 1, 1) := fet B38 (by decide +kernel) (Or.inr rfl)
theorem f38_26 : zft 38 26 = some (.aaload, 1) := fet B38 (by decide +kernel) (Or.inr rfl)
theorem f38_27 : zft 38 27 = some (.iconst 0, 1) := fet B38 (by decide +kernel) (Or.inr rfl)
theorem f38_28 : zft 38 28 = some (.putfield 76, 3) := fet B38 (by decide +kernel) (Or.inr rfl)
theorem f38_31 : zft 38 31 = some (.aload_n 0, 1) := fet B38 (by decide +kernel) (Or.inr rfl)
theorem f38_32 : zft 38 32 = some (.invokevirtual 83, 3) := fet B38 (by decide +kernel) (Or.inr rfl)
theorem f38_35 : zft 38 35 = some (.iload_n 2, 1) := fet B38 (by decide +kernel) (Or.inr rfl)
theorem f38_36 : zft 38 36 = some (.ireturn, 1) := fet B38 (by decide +kernel) (Or.inr rfl)
theorem x38_0 : Rn S 38 0 [v0, .int a, v2] st I J Q = Rn S 38 1 [v0, .int a, v2] (.int a :: st) I J Q := rL f38_0 rfl rfl
theorem x38_1 : Rn S 38 1 [v0, v1, v2] st I J Q = Rn S 38 2 [v0, v1, v2] (.int 3 :: st) I J Q := rS f38_1 rfl
theorem x38_2 : Rn S 38 2 [v0, v1, v2] (.int a1 :: .int a0 :: st) I J Q = (zcs st ≤ 8 ∧ Rn S 81 0 [.int a0, .int a1] [] I J (fun v I' J' => Rn S 38 5 [v0, v1, v2] (v.toList ++ st) I' J' Q)) := rCS (As := [.int a0, .int a1]) f38_2 rfl rfl rfl rfl (Nat.le_of_ble_eq_true rfl)
theorem x38_5 : Rn S 38 5 [v0, v1, v2] (.int a :: st) I J Q = if a = 0 then Rn S 38 8 [v0, v1, v2] st I J Q else Rn S 38 11 [v0, v1, v2] st I J Q := rIne f38_5 rfl rfl
theorem x38_8 : Rn S 38 8 [v0, v1, v2] st I J Q = Rn S 38 10 [v0, v1, v2] (.int (-2) :: st) I J Q := rS f38_8 rfl
theorem x38_10 : Rn S 38 10 [v0, v1, v2] [.int a] I J Q = Q (some (.int a)) I J := rR f38_10 rfl rfl rfl rfl rfl
theorem x38_11 : Rn S 38 11 [.ref q, v1, v2] st I J Q = Rn S 38 12 [.ref q, v1, v2] (.ref q :: st) I J Q := rL f38_11 rfl rfl
theorem x38_12_0 : Rn (zG xl) 38 12 [v0, v1, v2] (.ref 0 :: st) I J Q = Rn (zG xl) 38 15 [v0, v1, v2] (.ref 1 :: st) I J Q := (rGf f38_12 rfl).trans (tr_and rfl)
theorem x38_15 : Rn S 38 15 [v0, .int a, v2] st I J Q = Rn S 38 16 [v0, .int a, v2] (.int a :: st) I J Q := rL f38_15 rfl rfl
theorem x38_16 : Rn S 38 16 [v0, v1, v2] (.int a :: .ref q :: st) I J Q = (zar S q a ∧ Rn S 38 17 [v0, v1, v2] (zra S q a.toNatClampNeg :: st) I J Q) := rAal f38_16
theorem x38_17_2 : Rn (zG xl) 38 17 [v0, v1, v2] (.ref 2 :: st) I J Q = Rn (zG xl) 38 20 [v0, v1, v2] (.int (I 2 3) :: st) I J Q := (rGf f38_17 rfl).trans (tr_and rfl)
theorem x38_17_4 : Rn (zG xl) 38 17 [v0, v1, v2] (.ref 4 :: st) I J Q = Rn (zG xl) 38 20 [v0, v1, v2] (.int (I 4 3) :: st) I J Q := (rGf f38_17 rfl).trans (tr_and rfl)
theorem x38_17_6 : Rn (zG xl) 38 17 [v0, v1, v2] (.ref 6 :: st) I J Q = Rn (zG xl) 38 20 [v0, v1, v2] (.int (I 6 3) :: st) I J Q := (rGf f38_17 rfl).trans (tr_and rfl)
theorem x38_20 : Rn S 38 20 [v0, v1, v2] (.int a :: st) I J Q = Rn S 38 21 [v0, zkl v1, .int a] st I J Q := rL f38_20 rfl rfl
theorem x38_21 : Rn S 38 21 [.ref q, v1, v2] st I J Q = Rn S 38 22 [.ref q, v1, v2] (.ref q :: st) I J Q := rL f38_21 rfl rfl
theorem x38_22_0 : Rn (zG xl) 38 22 [v0, v1, v2] (.ref 0 :: st) I J Q = Rn (zG xl) 38 25 [v0, v1, v2] (.ref 1 :: st) I J Q := (rGf f38_22 rfl).trans (tr_and rfl)
theorem x38_25 : Rn S 38 25 [v0, .int a, v2] st I J Q = Rn S 38 26 [v0, .int a, v2] (.int a :: st) I J Q := rL f38_25 rfl rfl
theorem x38_26 : Rn S 38 26 [v0, v1, v2] (.int a :: .ref q :: st) I J Q = (zar S q a ∧ Rn S 38 27 [v0, v1, v2] (zra S q a.toNatClampNeg :: st) I J Q) := rAal f38_26
theorem x38_27 : Rn S 38 27 [v0, v1, v2] st I J Q = Rn S 38 28 [v0, v1, v2] (.int 0 :: st) I J Q := rS f38_27 rfl
theorem x38_28_2 : Rn (zG xl) 38 28 [v0, v1, v2] (.int a :: .ref 2 :: st) I J Q = Rn (zG xl) 38 31 [v0, v1, v2] st (zr I 2 (upd (I 2) 3 a)) J Q := (rPf f38_28 rfl).trans (tr_pf rfl rfl rfl)
theorem x38_28_4 : Rn (zG xl) 38 28 [v0, v1, v2] (.int a :: .ref 4 :: st) I J Q = Rn (zG xl) 38 31 [v0, v1, v2] st (zr I 4 (upd (I 4) 3 a)) J Q := (rPf f38_28 rfl).trans (tr_pf rfl rfl rfl)
theorem x38_28_6 : Rn (zG xl) 38 28 [v0, v1, v2] (.int a :: .ref 6 :: st) I J Q = Rn (zG xl) 38 31 [v0, v1, v2] st (zr I 6 (upd (I 6) 3 a)) J Q := (rPf f38_28 rfl).trans (tr_pf rfl rfl rfl)
theorem x38_31 : Rn S 38 31 [.ref q, v1, v2] st I J Q = Rn S 38 32 [.ref q, v1, v2] (.ref q :: st) I J Q := rL f38_31 rfl rfl
theorem x38_32 : Rn S 38 32 [v0, v1, v2] (.ref q :: st) I J Q = ((zcls S q = 5 ∧ zcs st ≤ 8) ∧ Rn S 84 0 [.ref q] [] I J (fun v I' J' => Rn S 38 35 [v0, v1, v2] (v.toList ++ st) I' J' Q)) := rCV (As := []) f38_32 rfl rfl rfl rfl (Nat.le_of_ble_eq_true rfl)
theorem x38_35 : Rn S 38 35 [v0, v1, .int a] st I J Q = Rn S 38 36 [v0, v1, .int a] (.int a :: st) I J Q := rL f38_35 rfl rfl
theorem x38_36 : Rn S 38 36 [v0, v1, v2] [.int a] I J Q = Q (some (.int a)) I J := rR f38_36 rfl rfl rfl rfl rfl
/-! X5.undo: 39 -/
theorem B39 : zB 39 = cX5_undo := rfl
theorem f39_0 : zft 39 0 = some (.iload_n 1, 1) := fet B39 (by decide +kernel) (Or.inr rfl)
theorem f39_1 : zft 39 1 = some (.iconst 3, 1) := fet B39 (by decide +kernel) (Or.inr rfl)
theorem f39_2 : zft 39 2 = some (.invokestatic 72, 3) := fet B39 (by decide +kernel) (Or.inr rfl)
theorem f39_5 : zft 39 5 = some (.ifCond .ne 6, 3) := fet B39 (by decide +kernel) (Or.inr rfl)
theorem f39_8 : zft 39 8 = some (.bipush (-2), 2) := fet B39 (by decide +kernel) (Or.inr rfl)
theorem f39_10 : zft 39 10 = some (.ireturn, 1) := fet B39 (by decide +kernel) (Or.inr rfl)
theorem f39_11 : zft 39 11 = some (.aload_n 0, 1) := fet B39 (by decide +kernel) (Or.inr rfl)
theorem f39_12 : zft 39 12 = some (.getfield 20, 3) := fet B39 (by decide +kernel) (Or.inr rfl)
theorem f39_15 : zft 39 15 = some (.iload_n 1, 1) := fet B39 (by decide +kernel) (Or.inr rfl)
theorem f39_16 : zft 39 16 = some (.aaload, 1) := fet B39 (by decide +kernel) (Or.inr rfl)
theorem f39_17 : zft 39 17 = some (.astore_n 2, 1) := fet B39 (by decide +kernel) (Or.inr rfl)
theorem f39_18 : zft 39 18 = some (.aload_n 2, 1) := fet B39 (by decide +kernel) (Or.inr rfl)
theorem f39_19 : zft 39 19 = some (.getfield 76, 3) := fet B39 (by decide +kernel) (Or.inr rfl)
theorem f39_22 : zft 39 22 = some (.ifCond .ne 6, 3) := fet B39 (by decide +kernel) (Or.inr rfl)
theorem f39_25 : zft 39 25 = some (.bipush (-3), 2) := fet B39 (by decide +kernel) (Or.inr rfl)
theorem f39_27 : zft 39 27 = some (.ireturn, 1) := fet B39 (by decide +kernel) (Or.inr rfl)
theorem f39_28 : zft 39 28 = some (.aload_n 2, 1) := fet B39 (by decide +kernel) (Or.inr rfl)
theorem f39_29 : zft 39 29 = some (.dup, 1) := fet B39 (by decide +kernel) (Or.inr rfl)
theorem f39_30 : zft 39 30 = some (.getfield 76, 3) := fet B39 (by decide +kernel) (Or.inr rfl)
theorem f39_33 : zft 39 33 = some (.iconst 1, 1) := fet B39 (by decide +kernel) (Or.inr rfl)
theorem f39_34 : zft 39 34 = some (.isub, 1) := fet B39 (by decide +kernel) (Or.inr rfl)
theorem f39_35 : zft 39 35 = some (.putfield 76, 3) := fet B39 (by decide +kernel) (Or.inr rfl)
theorem f39_38 : zft 39 38 = some (.aload_n 0, 1) := fet B39 (by decide +kernel) (Or.inr rfl)
theorem f39_39 : zft 39 39 = some (.invokevirtual 83, 3) := fet B39 (by decide +kernel) (Or.inr rfl)
theorem f39_42 : zft 39 42 = some (.aload_n 2, 1) := fet B39 (by decide +kernel) (Or.inr rfl)
theorem f39_43 : zft 39 43 = some (.getfield 76, 3) := fet B39 (by decide +kernel) (Or.inr rfl)
theorem f39_46 : zft 39 46 = some (.ireturn, 1) := fet B39 (by decide +kernel) (Or.inr rfl)
theorem x39_0 : Rn S 39 0 [v0, .int a, v2] st I J Q = Rn S 39 1 [v0, .int a, v2] (.int a :: st) I J Q := rL f39_0 rfl rfl
theorem x39_1 : Rn S 39 1 [v0, v1, v2] st I J Q = Rn S 39 2 [v0, v1, v2] (.int 3 :: st) I J Q := rS f39_1 rfl
theorem x39_2 : Rn S 39 2 [v0, v1, v2] (.int a1 :: .int a0 :: st) I J Q = (zcs st ≤ 8 ∧ Rn S 81 0 [.int a0, .int a1] [] I J (fun v I' J' => Rn S 39 5 [v0, v1, v2] (v.toList ++ st) I' J' Q)) := rCS (As := [.int a0, .int a1]) f39_2 rfl rfl rfl rfl (Nat.le_of_ble_eq_true rfl)
theorem x39_5 : Rn S 39 5 [v0, v1, v2] (.int a :: st) I J Q = if a = 0 then Rn S 39 8 [v0, v1, v2] st I J Q else Rn S 39 11 [v0, v1, v2] st I J Q := rIne f39_5 rfl rfl
theorem x39_8 : Rn S 39 8 [v0, v1, v2] st I J Q = Rn S 39 10 [v0, v1, v2] (.int (-2) :: st) I J Q := rS f39_8 rfl
theorem x39_10 : Rn S 39 10 [v0, v1, v2] [.int a] I J Q = Q (some (.int a)) I J := rR f39_10 rfl rfl rfl rfl rfl
theorem x39_11 : Rn S 39 11 [.ref q, v1, v2] st I J Q = Rn S 39 12 [.ref q, v1, v2] (.ref q :: st) I J Q := rL f39_11 rfl rfl
theorem x39_12_0 : Rn (zG xl) 39 12 [v0, v1, v2] (.ref 0 :: st) I J Q = Rn (zG xl) 39 15 [v0, v1, v2] (.ref 1 :: st) I J Q := (rGf f39_12 rfl).trans (tr_and rfl)
theorem x39_15 : Rn S 39 15 [v0, .int a, v2] st I J Q = Rn S 39 16 [v0, .int a, v2] (.int a :: st) I J Q := rL f39_15 rfl rfl
theorem x39_16 : Rn S 39 16 [v0, v1, v2] (.int a :: .ref q :: st) I J Q = (zar S q a ∧ Rn S 39 17 [v0, v1, v2] (zra S q a.toNatClampNeg :: st) I J Q) := rAal f39_16
theorem x39_17 : Rn S 39 17 [v0, v1, v2] (.ref q :: st) I J Q = Rn S 39 18 [v0, zkl v1, .ref q] st I J Q := rL f39_17 rfl rfl
theorem x39_18 : Rn S 39 18 [v0, v1, .ref q] st I J Q = Rn S 39 19 [v0, v1, .ref q] (.ref q :: st) I J Q := rL f39_18 rfl rfl
theorem x39_19_2 : Rn (zG xl) 39 19 [v0, v1, v2] (.ref 2 :: st) I J Q = Rn (zG xl) 39 22 [v0, v1, v2] (.int (I 2 3) :: st) I J Q := (rGf f39_19 rfl).trans (tr_and rfl)
theorem x39_19_4 : Rn (zG xl) 39 19 [v0, v1, v2] (.ref 4 :: st) I J Q = Rn (zG xl) 39 22 [v0, v1, v2] (.int (I 4 3) :: st) I J Q := (rGf f39_19 rfl).trans (tr_and rfl)
theorem x39_19_6 : Rn (zG xl) 39 19 [v0, v1, v2] (.ref 6 :: st) I J Q = Rn (zG xl) 39 22 [v0, v1, v2] (.int (I 6 3) :: st) I J Q := (rGf f39_19 rfl).trans (tr_and rfl)
theorem x39_22 : Rn S 39 22 [v0, v1, v2] (.int a :: st) I J Q = if a = 0 then Rn S 39 25 [v0, v1, v2] st I J Q else Rn S 39 28 [v0, v1, v2] st I J Q := rIne f39_22 rfl rfl
theorem x39_25 : Rn S 39 25 [v0, v1, v2] st I J Q = Rn S 39 27 [v0, v1, v2] (.int (-3) :: st) I J Q := rS f39_25 rfl
theorem x39_27 : Rn S 39 27 [v0, v1, v2] [.int a] I J Q = Q (some (.int a)) I J := rR f39_27 rfl rfl rfl rfl rfl
theorem x39_28 : Rn S 39 28 [v0, v1, .ref q] st I J Q = Rn S 39 29 [v0, v1, .ref q] (.ref q :: st) I J Q := rL f39_28 rfl rfl
theorem x39_29i : Rn S 39 29 [v0, v1, v2] (.int a :: st) I J Q = Rn S 39 30 [v0, v1, v2] (.int a :: .int a :: st) I J Q := rS f39_29 rfl
theorem x39_29r : Rn S 39 29 [v0, v1, v2] (.ref q :: st) I J Q = Rn S 39 30 [v0, v1, v2] (.ref q :: .ref q :: st) I J Q := rS f39_29 rfl
theorem x39_30_2 : Rn (zG xl) 39 30 [v0, v1, v2] (.ref 2 :: st) I J Q = Rn (zG xl) 39 33 [v0, v1, v2] (.int (I 2 3) :: st) I J Q := (rGf f39_30 rfl).trans (tr_and rfl)
theorem x39_30_4 : Rn (zG xl) 39 30 [v0, v1, v2] (.ref 4 :: st) I J Q = Rn (zG xl) 39 33 [v0, v1, v2] (.int (I 4 3) :: st) I J Q := (rGf f39_30 rfl).trans (tr_and rfl)
theorem x39_30_6 : Rn (zG xl) 39 30 [v0, v1, v2] (.ref 6 :: st) I J Q = Rn (zG xl) 39 33 [v0, v1, v2] (.int (I 6 3) :: st) I J Q := (rGf f39_30 rfl).trans (tr_and rfl)
theorem x39_33 : Rn S 39 33 [v0, v1, v2] st I J Q = Rn S 39 34 [v0, v1, v2] (.int 1 :: st) I J Q := rS f39_33 rfl
theorem x39_34 : Rn S 39 34 [v0, v1, v2] (.int b :: .int a :: st) I J Q = Rn S 39 35 [v0, v1, v2] (.int (a - b) :: st) I J Q := rS f39_34 rfl
theorem x39_35_2 : Rn (zG xl) 39 35 [v0, v1, v2] (.int a :: .ref 2 :: st) I J Q = Rn (zG xl) 39 38 [v0, v1, v2] st (zr I 2 (upd (I 2) 3 a)) J Q := (rPf f39_35 rfl).trans (tr_pf rfl rfl rfl)
theorem x39_35_4 : Rn (zG xl) 39 35 [v0, v1, v2] (.int a :: .ref 4 :: st) I J Q = Rn (zG xl) 39 38 [v0, v1, v2] st (zr I 4 (upd (I 4) 3 a)) J Q := (rPf f39_35 rfl).trans (tr_pf rfl rfl rfl)
theorem x39_35_6 : Rn (zG xl) 39 35 [v0, v1, v2] (.int a :: .ref 6 :: st) I J Q = Rn (zG xl) 39 38 [v0, v1, v2] st (zr I 6 (upd (I 6) 3 a)) J Q := (rPf f39_35 rfl).trans (tr_pf rfl rfl rfl)
theorem x39_38 : Rn S 39 38 [.ref q, v1, v2] st I J Q = Rn S 39 39 [.ref q, v1, v2] (.ref q :: st) I J Q := rL f39_38 rfl rfl
theorem x39_39 : Rn S 39 39 [v0, v1, v2] (.ref q :: st) I J Q = ((zcls S q = 5 ∧ zcs st ≤ 8) ∧ Rn S 84 0 [.ref q] [] I J (fun v I' J' => Rn S 39 42 [v0, v1, v2] (v.toList ++ st) I' J' Q)) := rCV (As := []) f39_39 rfl rfl rfl rfl (Nat.le_of_ble_eq_true rfl)
theorem x39_42 : Rn S 39 42 [v0, v1, .ref q] st I J Q = Rn S 39 43 [v0, v1, .ref q] (.ref q :: st) I J Q := rL f39_42 rfl rfl
theorem x39_43_2 : Rn (zG xl) 39 43 [v0, v1, v2] (.ref 2 :: st) I J Q = Rn (zG xl) 39 46 [v0, v1, v2] (.int (I 2 3) :: st) I J Q := (rGf f39_43 rfl).trans (tr_and rfl)
theorem x39_43_4 : Rn (zG xl) 39 43 [v0, v1, v2] (.ref 4 :: st) I J Q = Rn (zG xl) 39 46 [v0, v1, v2] (.int (I 4 3) :: st) I J Q := (rGf f39_43 rfl).trans (tr_and rfl)
theorem x39_43_6 : Rn (zG xl) 39 43 [v0, v1, v2] (.ref 6 :: st) I J Q = Rn (zG xl) 39 46 [v0, v1, v2] (.int (I 6 3) :: st) I J Q := (rGf f39_43 rfl).trans (tr_and rfl)
theorem x39_46 : Rn S 39 46 [v0, v1, v2] [.int a] I J Q = Q (some (.int a)) I J := rR f39_46 rfl rfl rfl rfl rfl
/-! X5.fault: 40 -/
theorem B40 : zB 40 = cX5_fault := rfl
theorem f40_0 : zft 40 0 = some (.iload_n 1, 1) := fet B40 (by decide +kernel) (Or.inr rfl)
theorem f40_1 : zft 40 1 = some (.iconst 3, 1) := fet B40 (by decide +kernel) (Or.inr rfl)
theorem f40_2 : zft 40 2 = some (.invokestatic 72, 3) := fet B40 (by decide +kernel) (Or.inr rfl)
theorem f40_5 : zft 40 5 = some (.ifCond .eq 15, 3) := fet B40 (by decide +kernel) (Or.inr rfl)
theorem f40_8 : zft 40 8 = some (.aload_n 0, 1) := fet B40 (by decide +kernel) (Or.inr rfl)
theorem f40_9 : zft 40 9 = some (.getfield 20, 3) := fet B40 (by decide +kernel) (Or.inr rfl)
theorem f40_12 : zft 40 12 = some (.iload_n 1, 1) := fet B40 (by decide +kernel) (Or.inr rfl)
theorem f40_13 : zft 40 13 = some (.aaload, 1) := fet B40 (by decide +kernel) (Or.inr rfl)
theorem f40_14 : zft 40 14 = some (.invokevirtual 86, 3) := fet B40 (by decide +kernel) (Or.inr rfl)
theorem f40_17 : zft 40 17 = some (.goto 5, 3) := fet B40 (by decide +kernel) (Or.inr rfl)
theorem f40_20 : zft 40 20 = some (.bipush (-2), 2) := fet B40 (by decide +kernel) (Or.inr rfl)
theorem f40_22 : zft 40 22 = some (.ireturn, 1) := fet B40 (by decide +kernel) (Or.inr rfl)
theorem x40_0 : Rn S 40 0 [v0, .int a] st I J Q = Rn S 40 1 [v0, .int a] (.int a :: st) I J Q := rL f40_0 rfl rfl
theorem x40_1 : Rn S 40 1 [v0, v1] st I J Q = Rn S 40 2 [v0, v1] (.int 3 :: st) I J Q := rS f40_1 rfl
theorem x40_2 : Rn S 40 2 [v0, v1] (.int a1 :: .int a0 :: st) I J Q = (zcs st ≤ 8 ∧ Rn S 81 0 [.int a0, .int a1] [] I J (fun v I' J' => Rn S 40 5 [v0, v1] (v.toList ++ st) I' J' Q)) := rCS (As := [.int a0, .int a1]) f40_2 rfl rfl rfl rfl (Nat.le_of_ble_eq_true rfl)
theorem x40_5 : Rn S 40 5 [v0, v1] (.int a :: st) I J Q = if a = 0 then Rn S 40 20 [v0, v1] st I J Q else Rn S 40 8 [v0, v1] st I J Q := rIeq f40_5 rfl rfl
theorem x40_8 : Rn S 40 8 [.ref q, v1] st I J Q = Rn S 40 9 [.ref q, v1] (.ref q :: st) I J Q := rL f40_8 rfl rfl
theorem x40_9_0 : Rn (zG xl) 40 9 [v0, v1] (.ref 0 :: st) I J Q = Rn (zG xl) 40 12 [v0, v1] (.ref 1 :: st) I J Q := (rGf f40_9 rfl).trans (tr_and rfl)
theorem x40_12 : Rn S 40 12 [v0, .int a] st I J Q = Rn S 40 13 [v0, .int a] (.int a :: st) I J Q := rL f40_12 rfl rfl
theorem x40_13 : Rn S 40 13 [v0, v1] (.int a :: .ref q :: st) I J Q = (zar S q a ∧ Rn S 40 14 [v0, v1] (zra S q a.toNatClampNeg :: st) I J Q) := rAal f40_13
theorem x40_14 : Rn S 40 14 [v0, v1] (.ref q :: st) I J Q = ((zcls S q = 4 ∧ zcs st ≤ 8) ∧ Rn S 31 0 [.ref q, .null] [] I J (fun v I' J' => Rn S 40 17 [v0, v1] (v.toList ++ st) I' J' Q)) := rCV (As := []) f40_14 rfl rfl rfl rfl (Nat.le_of_ble_eq_true rfl)
theorem x40_17 : Rn S 40 17 [v0, v1] st I J Q = Rn S 40 22 [v0, v1] st I J Q := rB f40_17 rfl rfl rfl
theorem x40_20 : Rn S 40 20 [v0, v1] st I J Q = Rn S 40 22 [v0, v1] (.int (-2) :: st) I J Q := rS f40_20 rfl
theorem x40_22 : Rn S 40 22 [v0, v1] [.int a] I J Q = Q (some (.int a)) I J := rR f40_22 rfl rfl rfl rfl rfl
/-! X5.line: 41 -/
theorem B41 : zB 41 = cX5_line := rfl
theorem f41_0 : zft 41 0 = some (.iload_n 1, 1) := fet B41 (by decide +kernel) (Or.inr rfl)
theorem f41_1 : zft 41 1 = some (.aload_n 0, 1) := fet B41 (by decide +kernel) (Or.inr rfl)
theorem f41_2 : zft 41 2 = some (.getfield 27, 3) := fet B41 (by decide +kernel) (Or.inr rfl)
theorem f41_5 : zft 41 5 = some (.getfield 90, 3) := fet B41 (by decide +kernel) (Or.inr rfl)
theorem f41_8 : zft 41 8 = some (.invokestatic 72, 3) := fet B41 (by decide +kernel) (Or.inr rfl)
theorem f41_11 : zft 41 11 = some (.ifCond .eq 11, 3) := fet B41 (by decide +kernel) (Or.inr rfl)
theorem f41_14 : zft 41 14 = some (.iload_n 2, 1) := fet B41 (by decide +kernel) (Or.inr rfl)
theorem f41_15 : zft 41 15 = some (.iconst 3, 1) := fet B41 (by decide +kernel) (Or.inr rfl)
theorem f41_16 : zft 41 16 = some (.invokestatic 72, 3) := fet B41 (by decide +kernel) (Or.inr rfl)
theorem f41_19 : zft 41 19 = some (.ifCond .ne 6, 3) := fet B41 (by decide +kernel) (Or.inr rfl)
theorem f41_22 : zft 41 22 = some (.bipush (-2), 2) := fet B41 (by decide +kernel) (Or.inr rfl)
theorem f41_24 : zft 41 24 = some (.ireturn, 1) := fet B41 (by decide +kernel) (Or.inr rfl)
theorem f41_25 : zft 41 25 = some (.aload_n 0, 1) := fet B41 (by decide +kernel) (Or.inr rfl)
theorem f41_26 : zft 41 26 = some (.getfield 27, 3) := fet B41 (by decide +kernel) (Or.inr rfl)
theorem f41_29 : zft 41 29 = some (.getfield 93, 3) := fet B41 (by decide +kernel) (Or.inr rfl)
theorem f41_32 : zft 41 32 = some (.iload_n 1, 1) := fet B41 (by decide +kernel) (Or.inr rfl)
theorem f41_33 : zft 41 33 = some (.iaload, 1) := fet B41 (by decide +kernel) (Or.inr rfl)
theorem f41_34 : zft 41 34 = some (.istore_n 3, 1) := fet B41 (by decide +kernel) (Or.inr rfl)
theorem f41_35 : zft 41 35 = some (.iload_n 2, 1) := fet B41 (by decide +kernel) (Or.inr rfl)
theorem f41_36 : zft 41 36 = some (.ifCond .ne 5, 3) := fet B41 (by decide +kernel) (Or.inr rfl)
theorem f41_39 : zft 41 39 = some (.iload_n 3, 1) := fet B41 (by decide +kernel) (Or.inr rfl)
theorem f41_40 : zft 41 40 = some (.ireturn, 1) := fet B41 (by decide +kernel) (Or.inr rfl)
theorem f41_41 : zft 41 41 = some (.iload_n 2, 1) := fet B41 (by decide +kernel) (Or.inr rfl)
theorem f41_42 : zft 41 42 = some (.iconst 1, 1) := fet B41 (by decide +kernel) (Or.inr rfl)
theorem f41_43 : zft 41 43 = some (.if_icmp .ne 15, 3) := fet B41 (by decide +kernel) (Or.inr rfl)
theorem f41_46 : zft 41 46 = some (.aload_n 0, 1) := fet B41 (by decide +kernel) (Or.inr rfl)
theorem f41_47 : zft 41 47 = some (.getfield 27, 3) := fet B41 (by decide +kernel) (Or.inr rfl)
theorem f41_50 : zft 41 50 = some (.getfield 96, 3) := fet B41 (by decide +kernel) (Or.inr rfl)
theorem f41_53 : zft 41 53 = some (.iload_n 1, 1) := fet B41 (by decide +kernel) (Or.inr rfl)
theorem f41_54 : zft 41 54 = some (.iaload, 1) := fet B41 (by decide +kernel) (Or.inr rfl)
theorem f41_55 : zft 41 55 = some (.goto 8, 3) := fet B41 (by decide +kernel) (Or.inr rfl)
theorem f41_58 : zft 41 58 = some (.getstatic 99, 3) := fet B41 (by decide +kernel) (Or.inr rfl)
theorem f41_61 : zft 41 61 = some (.iload_n 3, 1) := fet B41 (by decide +kernel) (Or.inr rfl)
theorem f41_62 : zft 41 62 = some (.iaload, 1) := fet B41 (by decide +kernel) (Or.inr rfl)
theorem f41_63 : zft 41 63 = some (.ireturn, 1) := fet B41 (by decide +kernel) (Or.inr rfl)
theorem x41_0 : Rn S 41 0 [v0, .int a, v2, v3] st I J Q = Rn S 41 1 [v0, .int a, v2, v3] (.int a :: st) I J Q := rL f41_0 rfl rfl
theorem x41_1 : Rn S 41 1 [.ref q, v1, v2, v3] st I J Q = Rn S 41 2 [.ref q, v1, v2, v3] (.ref q :: st) I J Q := rL f41_1 rfl rfl
theorem x41_2_0 : Rn (zG xl) 41 2 [v0, v1, v2, v3] (.ref 0 :: st) I J Q = Rn (zG xl) 41 5 [v0, v1, v2, v3] (.ref 8 :: st) I J Q := (rGf f41_2 rfl).trans (tr_and rfl)
theorem x41_5_8 : Rn (zG xl) 41 5 [v0, v1, v2, v3] (.ref 8 :: st) I J Q = Rn (zG xl) 41 8 [v0, v1, v2, v3] (.int (I 8 0) :: st) I J Q := (rGf f41_5 rfl).trans (tr_and rfl)
theorem x41_5_28 : Rn (zG xl) 41 5 [v0, v1, v2, v3] (.ref 28 :: st) I J Q = Rn (zG xl) 41 8 [v0, v1, v2, v3] (.int (I 28 0) :: st) I J Q := (rGf f41_5 rfl).trans (tr_and rfl)
theorem x41_8 : Rn S 41 8 [v0, v1, v2, v3] (.int a1 :: .int a0 :: st) I J Q = (zcs st ≤ 8 ∧ Rn S 81 0 [.int a0, .int a1] [] I J (fun v I' J' => Rn S 41 11 [v0, v1, v2, v3] (v.toList ++ st) I' J' Q)) := rCS (As := [.int a0, .int a1]) f41_8 rfl rfl rfl rfl (Nat.le_of_ble_eq_true rfl)
theorem x41_11 : Rn S 41 11 [v0, v1, v2, v3] (.int a :: st) I J Q = if a = 0 then Rn S 41 22 [v0, v1, v2, v3] st I J Q else Rn S 41 14 [v0, v1, v2, v3] st I J Q := rIeq f41_11 rfl rfl
theorem x41_14 : Rn S 41 14 [v0, v1, .int a, v3] st I J Q = Rn S 41 15 [v0, v1, .int a, v3] (.int a :: st) I J Q := rL f41_14 rfl rfl
theorem x41_15 : Rn S 41 15 [v0, v1, v2, v3] st I J Q = Rn S 41 16 [v0, v1, v2, v3] (.int 3 :: st) I J Q := rS f41_15 rfl
theorem x41_16 : Rn S 41 16 [v0, v1, v2, v3] (.int a1 :: .int a0 :: st) I J Q = (zcs st ≤ 8 ∧ Rn S 81 0 [.int a0, .int a1] [] I J (fun v I' J' => Rn S 41 19 [v0, v1, v2, v3] (v.toList ++ st) I' J' Q)) := rCS (As := [.int a0, .int a1]) f41_16 rfl rfl rfl rfl (Nat.le_of_ble_eq_true rfl)
theorem x41_19 : Rn S 41 19 [v0, v1, v2, v3] (.int a :: st) I J Q = if a = 0 then Rn S 41 22 [v0, v1, v2, v3] st I J Q else Rn S 41 25 [v0, v1, v2, v3] st I J Q := rIne f41_19 rfl rfl
theorem x41_22 : Rn S 41 22 [v0, v1, v2, v3] st I J Q = Rn S 41 24 [v0, v1, v2, v3] (.int (-2) :: st) I J Q := rS f41_22 rfl
theorem x41_24 : Rn S 41 24 [v0, v1, v2, v3] [.int a] I J Q = Q (some (.int a)) I J := rR f41_24 rfl rfl rfl rfl rfl
theorem x41_25 : Rn S 41 25 [.ref q, v1, v2, v3] st I J Q = Rn S 41 26 [.ref q, v1, v2, v3] (.ref q :: st) I J Q := rL f41_25 rfl rfl
theorem x41_26_0 : Rn (zG xl) 41 26 [v0, v1, v2, v3] (.ref 0 :: st) I J Q = Rn (zG xl) 41 29 [v0, v1, v2, v3] (.ref 8 :: st) I J Q := (rGf f41_26 rfl).trans (tr_and rfl)
theorem x41_29_8 : Rn (zG xl) 41 29 [v0, v1, v2, v3] (.ref 8 :: st) I J Q = Rn (zG xl) 41 32 [v0, v1, v2, v3] (.ref 9 :: st) I J Q := (rGf f41_29 rfl).trans (tr_and rfl)
theorem x41_29_28 : Rn (zG xl) 41 29 [v0, v1, v2, v3] (.ref 28 :: st) I J Q = Rn (zG xl) 41 32 [v0, v1, v2, v3] (.ref 29 :: st) I J Q := (rGf f41_29 rfl).trans (tr_and rfl)
theorem x41_32 : Rn S 41 32 [v0, .int a, v2, v3] st I J Q = Rn S 41 33 [v0, .int a, v2, v3] (.int a :: st) I J Q := rL f41_32 rfl rfl
theorem x41_33 : Rn S 41 33 [v0, v1, v2, v3] (.int a :: .ref q :: st) I J Q = (zai S q a ∧ Rn S 41 34 [v0, v1, v2, v3] (.int (I q a.toNatClampNeg) :: st) I J Q) := rIal f41_33
theorem x41_34 : Rn S 41 34 [v0, v1, v2, v3] (.int a :: st) I J Q = Rn S 41 35 [v0, v1, zkl v2, .int a] st I J Q := rL f41_34 rfl rfl
theorem x41_35 : Rn S 41 35 [v0, v1, .int a, v3] st I J Q = Rn S 41 36 [v0, v1, .int a, v3] (.int a :: st) I J Q := rL f41_35 rfl rfl
theorem x41_36 : Rn S 41 36 [v0, v1, v2, v3] (.int a :: st) I J Q = if a = 0 then Rn S 41 39 [v0, v1, v2, v3] st I J Q else Rn S 41 41 [v0, v1, v2, v3] st I J Q := rIne f41_36 rfl rfl
theorem x41_39 : Rn S 41 39 [v0, v1, v2, .int a] st I J Q = Rn S 41 40 [v0, v1, v2, .int a] (.int a :: st) I J Q := rL f41_39 rfl rfl
theorem x41_40 : Rn S 41 40 [v0, v1, v2, v3] [.int a] I J Q = Q (some (.int a)) I J := rR f41_40 rfl rfl rfl rfl rfl
theorem x41_41 : Rn S 41 41 [v0, v1, .int a, v3] st I J Q = Rn S 41 42 [v0, v1, .int a, v3] (.int a :: st) I J Q := rL f41_41 rfl rfl
theorem x41_42 : Rn S 41 42 [v0, v1, v2, v3] st I J Q = Rn S 41 43 [v0, v1, v2, v3] (.int 1 :: st) I J Q := rS f41_42 rfl
theorem x41_43 : Rn S 41 43 [v0, v1, v2, v3] (.int b :: .int a :: st) I J Q = if a = b then Rn S 41 46 [v0, v1, v2, v3] st I J Q else Rn S 41 58 [v0, v1, v2, v3] st I J Q := rCne f41_43 rfl rfl
theorem x41_46 : Rn S 41 46 [.ref q, v1, v2, v3] st I J Q = Rn S 41 47 [.ref q, v1, v2, v3] (.ref q :: st) I J Q := rL f41_46 rfl rfl
theorem x41_47_0 : Rn (zG xl) 41 47 [v0, v1, v2, v3] (.ref 0 :: st) I J Q = Rn (zG xl) 41 50 [v0, v1, v2, v3] (.ref 8 :: st) I J Q := (rGf f41_47 rfl).trans (tr_and rfl)
theorem x41_50_8 : Rn (zG xl) 41 50 [v0, v1, v2, v3] (.ref 8 :: st) I J Q = Rn (zG xl) 41 53 [v0, v1, v2, v3] (.ref 10 :: st) I J Q := (rGf f41_50 rfl).trans (tr_and rfl)
theorem x41_50_28 : Rn (zG xl) 41 50 [v0, v1, v2, v3] (.ref 28 :: st) I J Q = Rn (zG xl) 41 53 [v0, v1, v2, v3] (.ref 30 :: st) I J Q := (rGf f41_50 rfl).trans (tr_and rfl)
theorem x41_53 : Rn S 41 53 [v0, .int a, v2, v3] st I J Q = Rn S 41 54 [v0, .int a, v2, v3] (.int a :: st) I J Q := rL f41_53 rfl rfl
theorem x41_54 : Rn S 41 54 [v0, v1, v2, v3] (.int a :: .ref q :: st) I J Q = (zai S q a ∧ Rn S 41 55 [v0, v1, v2, v3] (.int (I q a.toNatClampNeg) :: st) I J Q) := rIal f41_54
theorem x41_55 : Rn S 41 55 [v0, v1, v2, v3] st I J Q = Rn S 41 63 [v0, v1, v2, v3] st I J Q := rB f41_55 rfl rfl rfl
theorem x41_58 : Rn S 41 58 [v0, v1, v2, v3] st I J Q = Rn S 41 61 [v0, v1, v2, v3] (.ref 1000 :: st) I J Q := rS f41_58 rfl
theorem x41_61 : Rn S 41 61 [v0, v1, v2, .int a] st I J Q = Rn S 41 62 [v0, v1, v2, .int a] (.int a :: st) I J Q := rL f41_61 rfl rfl
theorem x41_62 : Rn S 41 62 [v0, v1, v2, v3] (.int a :: .ref q :: st) I J Q = (zai S q a ∧ Rn S 41 63 [v0, v1, v2, v3] (.int (I q a.toNatClampNeg) :: st) I J Q) := rIal f41_62
theorem x41_63 : Rn S 41 63 [v0, v1, v2, v3] [.int a] I J Q = Q (some (.int a)) I J := rR f41_63 rfl rfl rfl rfl rfl
/-! X5.reader: 42 -/
theorem B42 : zB 42 = cX5_reader := rfl
theorem f42_0 : zft 42 0 = some (.iload_n 1, 1) := fet B42 (by decide +kernel) (Or.inr rfl)
theorem f42_1 : zft 42 1 = some (.aload_n 0, 1) := fet B42 (by decide +kernel) (Or.inr rfl)
theorem f42_2 : zft 42 2 = some (.getfield 27, 3) := fet B42 (by decide +kernel) (Or.inr rfl)
theorem f42_5 : zft 42 5 = some (.getfield 102, 3) := fet B42 (by decide +kernel) (Or.inr rfl)
theorem f42_8 : zft 42 8 = some (.invokestatic 72, 3) := fet B42 (by decide +kernel) (Or.inr rfl)
theorem f42_11 : zft 42 11 = some (.ifCond .eq 11, 3) := fet B42 (by decide +kernel) (Or.inr rfl)
theorem f42_14 : zft 42 14 = some (.iload_n 2, 1) := fet B42 (by decide +kernel) (Or.inr rfl)
theorem f42_15 : zft 42 15 = some (.iconst 2, 1) := fet B42 (by decide +kernel) (Or.inr rfl)
theorem f42_16 : zft 42 16 = some (.invokestatic 72, 3) := fet B42 (by decide +kernel) (Or.inr rfl)
theorem f42_19 : zft 42 19 = some (.ifCond .ne 6, 3) := fet B42 (by decide +kernel) (Or.inr rfl)
theorem f42_22 : zft 42 22 = some (.bipush (-2), 2) := fet B42 (by decide +kernel) (Or.inr rfl)
theorem f42_24 : zft 42 24 = some (.ireturn, 1) := fet B42 (by decide +kernel) (Or.inr rfl)
theorem f42_25 : zft 42 25 = some (.iload_n 2, 1) := fet B42 (by decide +kernel) (Or.inr rfl)
theorem f42_26 : zft 42 26 = some (.ifCond .ne 15, 3) := fet B42 (by decide +kernel) (Or.inr rfl)
theorem f42_29 : zft 42 29 = some (.aload_n 0, 1) := fet B42 (by decide +kernel) (Or.inr rfl)
theorem f42_30 : zft 42 30 = some (.getfield 27, 3) := fet B42 (by decide +kernel) (Or.inr rfl)
theorem f42_33 : zft 42 33 = some (.getfield 105, 3) := fet B42 (by decide +kernel) (Or.inr rfl)
theorem f42_36 : zft 42 36 = some (.iload_n 1, 1) := fet B42 (by decide +kernel) (Or.inr rfl)
theorem f42_37 : zft 42 37 = some (.iaload, 1) := fet B42 (by decide +kernel) (Or.inr rfl)
theorem f42_38 : zft 42 38 = some (.goto 12, 3) := fet B42 (by decide +kernel) (Or.inr rfl)
theorem f42_41 : zft 42 41 = some (.aload_n 0, 1) := fet B42 (by decide +kernel) (Or.inr rfl)
theorem f42_42 : zft 42 42 = some (.getfield 27, 3) := fet B42 (by decide +kernel) (Or.inr rfl)
theorem f42_45 : zft 42 45 = some (.getfield 108, 3) := fet B42 (by decide +kernel) (Or.inr rfl)
theorem f42_48 : zft 42 48 = some (.iload_n 1, 1) := fet B42 (by decide +kernel) (Or.inr rfl)
theorem f42_49 : zft 42 49 = some (.iaload, 1) := fet B42 (by decide +kernel) (Or.inr rfl)
theorem f42_50 : zft 42 50 = some (.ireturn, 1) := fet B42 (by decide +kernel) (Or.inr rfl)
theorem x42_0 : Rn S 42 0 [v0, .int a, v2] st I J Q = Rn S 42 1 [v0, .int a, v2] (.int a :: st) I J Q := rL f42_0 rfl rfl
theorem x42_1 : Rn S 42 1 [.ref q, v1, v2] st I J Q = Rn S 42 2 [.ref q, v1, v2] (.ref q :: st) I J Q := rL f42_1 rfl rfl
theorem x42_2_0 : Rn (zG xl) 42 2 [v0, v1, v2] (.ref 0 :: st) I J Q = Rn (zG xl) 42 5 [v0, v1, v2] (.ref 8 :: st) I J Q := (rGf f42_2 rfl).trans (tr_and rfl)
theorem x42_5_8 : Rn (zG xl) 42 5 [v0, v1, v2] (.ref 8 :: st) I J Q = Rn (zG xl) 42 8 [v0, v1, v2] (.int (I 8 3) :: st) I J Q := (rGf f42_5 rfl).trans (tr_and rfl)
theorem x42_5_28 : Rn (zG xl) 42 5 [v0, v1, v2] (.ref 28 :: st) I J Q = Rn (zG xl) 42 8 [v0, v1, v2] (.int (I 28 3) :: st) I J Q := (rGf f42_5 rfl).trans (tr_and rfl)
theorem x42_8 : Rn S 42 8 [v0, v1, v2] (.int a1 :: .int a0 :: st) I J Q = (zcs st ≤ 8 ∧ Rn S 81 0 [.int a0, .int a1] [] I J (fun v I' J' => Rn S 42 11 [v0, v1, v2] (v.toList ++ st) I' J' Q)) := rCS (As := [.int a0, .int a1]) f42_8 rfl rfl rfl rfl (Nat.le_of_ble_eq_true rfl)
theorem x42_11 : Rn S 42 11 [v0, v1, v2] (.int a :: st) I J Q = if a = 0 then Rn S 42 22 [v0, v1, v2] st I J Q else Rn S 42 14 [v0, v1, v2] st I J Q := rIeq f42_11 rfl rfl
theorem x42_14 : Rn S 42 14 [v0, v1, .int a] st I J Q = Rn S 42 15 [v0, v1, .int a] (.int a :: st) I J Q := rL f42_14 rfl rfl
theorem x42_15 : Rn S 42 15 [v0, v1, v2] st I J Q = Rn S 42 16 [v0, v1, v2] (.int 2 :: st) I J Q := rS f42_15 rfl
theorem x42_16 : Rn S 42 16 [v0, v1, v2] (.int a1 :: .int a0 :: st) I J Q = (zcs st ≤ 8 ∧ Rn S 81 0 [.int a0, .int a1] [] I J (fun v I' J' => Rn S 42 19 [v0, v1, v2] (v.toList ++ st) I' J' Q)) := rCS (As := [.int a0, .int a1]) f42_16 rfl rfl rfl rfl (Nat.le_of_ble_eq_true rfl)
theorem x42_19 : Rn S 42 19 [v0, v1, v2] (.int a :: st) I J Q = if a = 0 then Rn S 42 22 [v0, v1, v2] st I J Q else Rn S 42 25 [v0, v1, v2] st I J Q := rIne f42_19 rfl rfl
theorem x42_22 : Rn S 42 22 [v0, v1, v2] st I J Q = Rn S 42 24 [v0, v1, v2] (.int (-2) :: st) I J Q := rS f42_22 rfl
theorem x42_24 : Rn S 42 24 [v0, v1, v2] [.int a] I J Q = Q (some (.int a)) I J := rR f42_24 rfl rfl rfl rfl rfl
theorem x42_25 : Rn S 42 25 [v0, v1, .int a] st I J Q = Rn S 42 26 [v0, v1, .int a] (.int a :: st) I J Q := rL f42_25 rfl rfl
theorem x42_26 : Rn S 42 26 [v0, v1, v2] (.int a :: st) I J Q = if a = 0 then Rn S 42 29 [v0, v1, v2] st I J Q else Rn S 42 41 [v0, v1, v2] st I J Q := rIne f42_26 rfl rfl
theorem x42_29 : Rn S 42 29 [.ref q, v1, v2] st I J Q = Rn S 42 30 [.ref q, v1, v2] (.ref q :: st) I J Q := rL f42_29 rfl rfl
theorem x42_30_0 : Rn (zG xl) 42 30 [v0, v1, v2] (.ref 0 :: st) I J Q = Rn (zG xl) 42 33 [v0, v1, v2] (.ref 8 :: st) I J Q := (rGf f42_30 rfl).trans (tr_and rfl)
theorem x42_33_8 : Rn (zG xl) 42 33 [v0, v1, v2] (.ref 8 :: st) I J Q = Rn (zG xl) 42 36 [v0, v1, v2] (.ref 11 :: st) I J Q := (rGf f42_33 rfl).trans (tr_and rfl)
theorem x42_33_28 : Rn (zG xl) 42 33 [v0, v1, v2] (.ref 28 :: st) I J Q = Rn (zG xl) 42 36 [v0, v1, v2] (.ref 31 :: st) I J Q := (rGf f42_33 rfl).trans (tr_and rfl)
theorem x42_36 : Rn S 42 36 [v0, .int a, v2] st I J Q = Rn S 42 37 [v0, .int a, v2] (.int a :: st) I J Q := rL f42_36 rfl rfl
theorem x42_37 : Rn S 42 37 [v0, v1, v2] (.int a :: .ref q :: st) I J Q = (zai S q a ∧ Rn S 42 38 [v0, v1, v2] (.int (I q a.toNatClampNeg) :: st) I J Q) := rIal f42_37
theorem x42_38 : Rn S 42 38 [v0, v1, v2] st I J Q = Rn S 42 50 [v0, v1, v2] st I J Q := rB f42_38 rfl rfl rfl
theorem x42_41 : Rn S 42 41 [.ref q, v1, v2] st I J Q = Rn S 42 42 [.ref q, v1, v2] (.ref q :: st) I J Q := rL f42_41 rfl rfl
theorem x42_42_0 : Rn (zG xl) 42 42 [v0, v1, v2] (.ref 0 :: st) I J Q = Rn (zG xl) 42 45 [v0, v1, v2] (.ref 8 :: st) I J Q := (rGf f42_42 rfl).trans (tr_and rfl)
theorem x42_45_8 : Rn (zG xl) 42 45 [v0, v1, v2] (.ref 8 :: st) I J Q = Rn (zG xl) 42 48 [v0, v1, v2] (.ref 12 :: st) I J Q := (rGf f42_45 rfl).trans (tr_and rfl)
theorem x42_45_28 : Rn (zG xl) 42 45 [v0, v1, v2] (.ref 28 :: st) I J Q = Rn (zG xl) 42 48 [v0, v1, v2] (.ref 32 :: st) I J Q := (rGf f42_45 rfl).trans (tr_and rfl)
theorem x42_48 : Rn S 42 48 [v0, .int a, v2] st I J Q = Rn S 42 49 [v0, .int a, v2] (.int a :: st) I J Q := rL f42_48 rfl rfl
theorem x42_49 : Rn S 42 49 [v0, v1, v2] (.int a :: .ref q :: st) I J Q = (zai S q a ∧ Rn S 42 50 [v0, v1, v2] (.int (I q a.toNatClampNeg) :: st) I J Q) := rIal f42_49
theorem x42_50 : Rn S 42 50 [v0, v1, v2] [.int a] I J Q = Q (some (.int a)) I J := rR f42_50 rfl rfl rfl rfl rfl
/-! X5.shift: 43 -/
theorem B43 : zB 43 = cX5_shift := rfl
theorem f43_0 : zft 43 0 = some (.iload_n 1, 1) := fet B43 (by decide +kernel) (Or.inr rfl)
theorem f43_1 : zft 43 1 = some (.bipush 16, 2) := fet B43 (by decide +kernel) (Or.inr rfl)
theorem f43_3 : zft 43 3 = some (.invokestatic 72, 3) := fet B43 (by decide +kernel) (Or.inr rfl)
theorem f43_6 : zft 43 6 = some (.ifCond .eq 11, 3) := fet B43 (by decide +kernel) (Or.inr rfl)
theorem f43_9 : zft 43 9 = some (.iload_n 2, 1) := fet B43 (by decide +kernel) (Or.inr rfl)
theorem f43_10 : zft 43 10 = some (.iconst 2, 1) := fet B43 (by decide +kernel) (Or.inr rfl)
theorem f43_11 : zft 43 11 = some (.invokestatic 72, 3) := fet B43 (by decide +kernel) (Or.inr rfl)
theorem f43_14 : zft 43 14 = some (.ifCond .ne 6, 3) := fet B43 (by decide +kernel) (Or.inr rfl)
theorem f43_17 : zft 43 17 = some (.bipush (-2), 2) := fet B43 (by decide +kernel) (Or.inr rfl)
theorem f43_19 : zft 43 19 = some (.ireturn, 1) := fet B43 (by decide +kernel) (Or.inr rfl)
theorem f43_20 : zft 43 20 = some (.iload_n 1, 1) := fet B43 (by decide +kernel) (Or.inr rfl)
theorem f43_21 : zft 43 21 = some (.aload_n 0, 1) := fet B43 (by decide +kernel) (Or.inr rfl)
theorem f43_22 : zft 43 22 = some (.getfield 27, 3) := fet B43 (by decide +kernel) (Or.inr rfl)
theorem f43_25 : zft 43 25 = some (.getfield 111, 3) := fet B43 (by decide +kernel) (Or.inr rfl)
theorem f43_28 : zft 43 28 = some (.if_icmp .lt 5, 3) := fet B43 (by decide +kernel) (Or.inr rfl)
theorem f43_31 : zft 43 31 = some (.iconst (-1), 1) := fet B43 (by decide +kernel) (Or.inr rfl)
theorem f43_32 : zft 43 32 = some (.ireturn, 1) := fet B43 (by decide +kernel) (Or.inr rfl)
theorem f43_33 : zft 43 33 = some (.iload_n 2, 1) := fet B43 (by decide +kernel) (Or.inr rfl)
theorem f43_34 : zft 43 34 = some (.ifCond .ne 15, 3) := fet B43 (by decide +kernel) (Or.inr rfl)
theorem f43_37 : zft 43 37 = some (.aload_n 0, 1) := fet B43 (by decide +kernel) (Or.inr rfl)
theorem f43_38 : zft 43 38 = some (.getfield 27, 3) := fet B43 (by decide +kernel) (Or.inr rfl)
theorem f43_41 : zft 43 41 = some (.getfield 114, 3) := fet B43 (by decide +kernel) (Or.inr rfl)
theorem f43_44 : zft 43 44 = some (.iload_n 1, 1) := fet B43 (by decide +kernel) (Or.inr rfl)
theorem f43_45 : zft 43 45 = some (.iaload, 1) := fet B43 (by decide +kernel) (Or.inr rfl)
theorem f43_46 : zft 43 46 = some (.goto 12, 3) := fet B43 (by decide +kernel) (Or.inr rfl)
theorem f43_49 : zft 43 49 = some (.aload_n 0, 1) := fet B43 (by decide +kernel) (Or.inr rfl)
theorem f43_50 : zft 43 50 = some (.getfield 27, 3) := fet B43 (by decide +kernel) (Or.inr rfl)
theorem f43_53 : zft 43 53 = some (.getfield 117, 3) := fet B43 (by decide +kernel) (Or.inr rfl)
theorem f43_56 : zft 43 56 = some (.iload_n 1, 1) := fet B43 (by decide +kernel) (Or.inr rfl)
theorem f43_57 : zft 43 57 = some (.iaload, 1) := fet B43 (by decide +kernel) (Or.inr rfl)
theorem f43_58 : zft 43 58 = some (.ireturn, 1) := fet B43 (by decide +kernel) (Or.inr rfl)
theorem x43_0 : Rn S 43 0 [v0, .int a, v2] st I J Q = Rn S 43 1 [v0, .int a, v2] (.int a :: st) I J Q := rL f43_0 rfl rfl
theorem x43_1 : Rn S 43 1 [v0, v1, v2] st I J Q = Rn S 43 3 [v0, v1, v2] (.int 16 :: st) I J Q := rS f43_1 rfl
theorem x43_3 : Rn S 43 3 [v0, v1, v2] (.int a1 :: .int a0 :: st) I J Q = (zcs st ≤ 8 ∧ Rn S 81 0 [.int a0, .int a1] [] I J (fun v I' J' => Rn S 43 6 [v0, v1, v2] (v.toList ++ st) I' J' Q)) := rCS (As := [.int a0, .int a1]) f43_3 rfl rfl rfl rfl (Nat.le_of_ble_eq_true rfl)
theorem x43_6 : Rn S 43 6 [v0, v1, v2] (.int a :: st) I J Q = if a = 0 then Rn S 43 17 [v0, v1, v2] st I J Q else Rn S 43 9 [v0, v1, v2] st I J Q := rIeq f43_6 rfl rfl
theorem x43_9 : Rn S 43 9 [v0, v1, .int a] st I J Q = Rn S 43 10 [v0, v1, .int a] (.int a :: st) I J Q := rL f43_9 rfl rfl
theorem x43_10 : Rn S 43 10 [v0, v1, v2] st I J Q = Rn S 43 11 [v0, v1, v2] (.int 2 :: st) I J Q := rS f43_10 rfl
theorem x43_11 : Rn S 43 11 [v0, v1, v2] (.int a1 :: .int a0 :: st) I J Q = (zcs st ≤ 8 ∧ Rn S 81 0 [.int a0, .int a1] [] I J (fun v I' J' => Rn S 43 14 [v0, v1, v2] (v.toList ++ st) I' J' Q)) := rCS (As := [.int a0, .int a1]) f43_11 rfl rfl rfl rfl (Nat.le_of_ble_eq_true rfl)
theorem x43_14 : Rn S 43 14 [v0, v1, v2] (.int a :: st) I J Q = if a = 0 then Rn S 43 17 [v0, v1, v2] st I J Q else Rn S 43 20 [v0, v1, v2] st I J Q := rIne f43_14 rfl rfl
theorem x43_17 : Rn S 43 17 [v0, v1, v2] st I J Q = Rn S 43 19 [v0, v1, v2] (.int (-2) :: st) I J Q := rS f43_17 rfl
theorem x43_19 : Rn S 43 19 [v0, v1, v2] [.int a] I J Q = Q (some (.int a)) I J := rR f43_19 rfl rfl rfl rfl rfl
theorem x43_20 : Rn S 43 20 [v0, .int a, v2] st I J Q = Rn S 43 21 [v0, .int a, v2] (.int a :: st) I J Q := rL f43_20 rfl rfl
theorem x43_21 : Rn S 43 21 [.ref q, v1, v2] st I J Q = Rn S 43 22 [.ref q, v1, v2] (.ref q :: st) I J Q := rL f43_21 rfl rfl
theorem x43_22_0 : Rn (zG xl) 43 22 [v0, v1, v2] (.ref 0 :: st) I J Q = Rn (zG xl) 43 25 [v0, v1, v2] (.ref 8 :: st) I J Q := (rGf f43_22 rfl).trans (tr_and rfl)
theorem x43_25_8 : Rn (zG xl) 43 25 [v0, v1, v2] (.ref 8 :: st) I J Q = Rn (zG xl) 43 28 [v0, v1, v2] (.int (I 8 6) :: st) I J Q := (rGf f43_25 rfl).trans (tr_and rfl)
theorem x43_25_28 : Rn (zG xl) 43 25 [v0, v1, v2] (.ref 28 :: st) I J Q = Rn (zG xl) 43 28 [v0, v1, v2] (.int (I 28 6) :: st) I J Q := (rGf f43_25 rfl).trans (tr_and rfl)
theorem x43_28 : Rn S 43 28 [v0, v1, v2] (.int b :: .int a :: st) I J Q = if a < b then Rn S 43 33 [v0, v1, v2] st I J Q else Rn S 43 31 [v0, v1, v2] st I J Q := rClt f43_28 rfl rfl
theorem x43_31 : Rn S 43 31 [v0, v1, v2] st I J Q = Rn S 43 32 [v0, v1, v2] (.int (-1) :: st) I J Q := rS f43_31 rfl
theorem x43_32 : Rn S 43 32 [v0, v1, v2] [.int a] I J Q = Q (some (.int a)) I J := rR f43_32 rfl rfl rfl rfl rfl
theorem x43_33 : Rn S 43 33 [v0, v1, .int a] st I J Q = Rn S 43 34 [v0, v1, .int a] (.int a :: st) I J Q := rL f43_33 rfl rfl
theorem x43_34 : Rn S 43 34 [v0, v1, v2] (.int a :: st) I J Q = if a = 0 then Rn S 43 37 [v0, v1, v2] st I J Q else Rn S 43 49 [v0, v1, v2] st I J Q := rIne f43_34 rfl rfl
theorem x43_37 : Rn S 43 37 [.ref q, v1, v2] st I J Q = Rn S 43 38 [.ref q, v1, v2] (.ref q :: st) I J Q := rL f43_37 rfl rfl
theorem x43_38_0 : Rn (zG xl) 43 38 [v0, v1, v2] (.ref 0 :: st) I J Q = Rn (zG xl) 43 41 [v0, v1, v2] (.ref 8 :: st) I J Q := (rGf f43_38 rfl).trans (tr_and rfl)
theorem x43_41_8 : Rn (zG xl) 43 41 [v0, v1, v2] (.ref 8 :: st) I J Q = Rn (zG xl) 43 44 [v0, v1, v2] (.ref 13 :: st) I J Q := (rGf f43_41 rfl).trans (tr_and rfl)
theorem x43_41_28 : Rn (zG xl) 43 41 [v0, v1, v2] (.ref 28 :: st) I J Q = Rn (zG xl) 43 44 [v0, v1, v2] (.ref 33 :: st) I J Q := (rGf f43_41 rfl).trans (tr_and rfl)
theorem x43_44 : Rn S 43 44 [v0, .int a, v2] st I J Q = Rn S 43 45 [v0, .int a, v2] (.int a :: st) I J Q := rL f43_44 rfl rfl
theorem x43_45 : Rn S 43 45 [v0, v1, v2] (.int a :: .ref q :: st) I J Q = (zai S q a ∧ Rn S 43 46 [v0, v1, v2] (.int (I q a.toNatClampNeg) :: st) I J Q) := rIal f43_45
theorem x43_46 : Rn S 43 46 [v0, v1, v2] st I J Q = Rn S 43 58 [v0, v1, v2] st I J Q := rB f43_46 rfl rfl rfl
theorem x43_49 : Rn S 43 49 [.ref q, v1, v2] st I J Q = Rn S 43 50 [.ref q, v1, v2] (.ref q :: st) I J Q := rL f43_49 rfl rfl
theorem x43_50_0 : Rn (zG xl) 43 50 [v0, v1, v2] (.ref 0 :: st) I J Q = Rn (zG xl) 43 53 [v0, v1, v2] (.ref 8 :: st) I J Q := (rGf f43_50 rfl).trans (tr_and rfl)
theorem x43_53_8 : Rn (zG xl) 43 53 [v0, v1, v2] (.ref 8 :: st) I J Q = Rn (zG xl) 43 56 [v0, v1, v2] (.ref 14 :: st) I J Q := (rGf f43_53 rfl).trans (tr_and rfl)
theorem x43_53_28 : Rn (zG xl) 43 53 [v0, v1, v2] (.ref 28 :: st) I J Q = Rn (zG xl) 43 56 [v0, v1, v2] (.ref 34 :: st) I J Q := (rGf f43_53 rfl).trans (tr_and rfl)
theorem x43_56 : Rn S 43 56 [v0, .int a, v2] st I J Q = Rn S 43 57 [v0, .int a, v2] (.int a :: st) I J Q := rL f43_56 rfl rfl
theorem x43_57 : Rn S 43 57 [v0, v1, v2] (.int a :: .ref q :: st) I J Q = (zai S q a ∧ Rn S 43 58 [v0, v1, v2] (.int (I q a.toNatClampNeg) :: st) I J Q) := rIal f43_57
theorem x43_58 : Rn S 43 58 [v0, v1, v2] [.int a] I J Q = Q (some (.int a)) I J := rR f43_58 rfl rfl rfl rfl rfl
/-! X5.limit: 44 -/
theorem B44 : zB 44 = cX5_limit := rfl
theorem f44_0 : zft 44 0 = some (.iload_n 1, 1) := fet B44 (by decide +kernel) (Or.inr rfl)
theorem f44_1 : zft 44 1 = some (.iconst 1, 1) := fet B44 (by decide +kernel) (Or.inr rfl)
theorem f44_2 : zft 44 2 = some (.if_icmp .lt 9, 3) := fet B44 (by decide +kernel) (Or.inr rfl)
theorem f44_5 : zft 44 5 = some (.iload_n 1, 1) := fet B44 (by decide +kernel) (Or.inr rfl)
theorem f44_6 : zft 44 6 = some (.bipush 24, 2) := fet B44 (by decide +kernel) (Or.inr rfl)
theorem f44_8 : zft 44 8 = some (.if_icmp .le 6, 3) := fet B44 (by decide +kernel) (Or.inr rfl)
theorem f44_11 : zft 44 11 = some (.bipush (-2), 2) := fet B44 (by decide +kernel) (Or.inr rfl)
theorem f44_13 : zft 44 13 = some (.ireturn, 1) := fet B44 (by decide +kernel) (Or.inr rfl)
theorem f44_14 : zft 44 14 = some (.aload_n 0, 1) := fet B44 (by decide +kernel) (Or.inr rfl)
theorem f44_15 : zft 44 15 = some (.getfield 27, 3) := fet B44 (by decide +kernel) (Or.inr rfl)
theorem f44_18 : zft 44 18 = some (.getfield 120, 3) := fet B44 (by decide +kernel) (Or.inr rfl)
theorem f44_21 : zft 44 21 = some (.istore_n 2, 1) := fet B44 (by decide +kernel) (Or.inr rfl)
theorem f44_22 : zft 44 22 = some (.aload_n 0, 1) := fet B44 (by decide +kernel) (Or.inr rfl)
theorem f44_23 : zft 44 23 = some (.getfield 27, 3) := fet B44 (by decide +kernel) (Or.inr rfl)
theorem f44_26 : zft 44 26 = some (.iload_n 1, 1) := fet B44 (by decide +kernel) (Or.inr rfl)
theorem f44_27 : zft 44 27 = some (.putfield 120, 3) := fet B44 (by decide +kernel) (Or.inr rfl)
theorem f44_30 : zft 44 30 = some (.aload_n 0, 1) := fet B44 (by decide +kernel) (Or.inr rfl)
theorem f44_31 : zft 44 31 = some (.getfield 34, 3) := fet B44 (by decide +kernel) (Or.inr rfl)
theorem f44_34 : zft 44 34 = some (.aload_n 0, 1) := fet B44 (by decide +kernel) (Or.inr rfl)
theorem f44_35 : zft 44 35 = some (.getfield 27, 3) := fet B44 (by decide +kernel) (Or.inr rfl)
theorem f44_38 : zft 44 38 = some (.invokevirtual 123, 3) := fet B44 (by decide +kernel) (Or.inr rfl)
theorem f44_41 : zft 44 41 = some (.iload_n 2, 1) := fet B44 (by decide +kernel) (Or.inr rfl)
theorem f44_42 : zft 44 42 = some (.ireturn, 1) := fet B44 (by decide +kernel) (Or.inr rfl)
theorem x44_0 : Rn S 44 0 [v0, .int a, v2] st I J Q = Rn S 44 1 [v0, .int a, v2] (.int a :: st) I J Q := rL f44_0 rfl rfl
theorem x44_1 : Rn S 44 1 [v0, v1, v2] st I J Q = Rn S 44 2 [v0, v1, v2] (.int 1 :: st) I J Q := rS f44_1 rfl
theorem x44_2 : Rn S 44 2 [v0, v1, v2] (.int b :: .int a :: st) I J Q = if a < b then Rn S 44 11 [v0, v1, v2] st I J Q else Rn S 44 5 [v0, v1, v2] st I J Q := rClt f44_2 rfl rfl
theorem x44_5 : Rn S 44 5 [v0, .int a, v2] st I J Q = Rn S 44 6 [v0, .int a, v2] (.int a :: st) I J Q := rL f44_5 rfl rfl
theorem x44_6 : Rn S 44 6 [v0, v1, v2] st I J Q = Rn S 44 8 [v0, v1, v2] (.int 24 :: st) I J Q := rS f44_6 rfl
theorem x44_8 : Rn S 44 8 [v0, v1, v2] (.int b :: .int a :: st) I J Q = if b < a then Rn S 44 11 [v0, v1, v2] st I J Q else Rn S 44 14 [v0, v1, v2] st I J Q := rCle f44_8 rfl rfl
theorem x44_11 : Rn S 44 11 [v0, v1, v2] st I J Q = Rn S 44 13 [v0, v1, v2] (.int (-2) :: st) I J Q := rS f44_11 rfl
theorem x44_13 : Rn S 44 13 [v0, v1, v2] [.int a] I J Q = Q (some (.int a)) I J := rR f44_13 rfl rfl rfl rfl rfl
theorem x44_14 : Rn S 44 14 [.ref q, v1, v2] st I J Q = Rn S 44 15 [.ref q, v1, v2] (.ref q :: st) I J Q := rL f44_14 rfl rfl
theorem x44_15_0 : Rn (zG xl) 44 15 [v0, v1, v2] (.ref 0 :: st) I J Q = Rn (zG xl) 44 18 [v0, v1, v2] (.ref 8 :: st) I J Q := (rGf f44_15 rfl).trans (tr_and rfl)
theorem x44_18_8 : Rn (zG xl) 44 18 [v0, v1, v2] (.ref 8 :: st) I J Q = Rn (zG xl) 44 21 [v0, v1, v2] (.int (I 8 14) :: st) I J Q := (rGf f44_18 rfl).trans (tr_and rfl)
theorem x44_18_28 : Rn (zG xl) 44 18 [v0, v1, v2] (.ref 28 :: st) I J Q = Rn (zG xl) 44 21 [v0, v1, v2] (.int (I 28 14) :: st) I J Q := (rGf f44_18 rfl).trans (tr_and rfl)
theorem x44_21 : Rn S 44 21 [v0, v1, v2] (.int a :: st) I J Q = Rn S 44 22 [v0, zkl v1, .int a] st I J Q := rL f44_21 rfl rfl
theorem x44_22 : Rn S 44 22 [.ref q, v1, v2] st I J Q = Rn S 44 23 [.ref q, v1, v2] (.ref q :: st) I J Q := rL f44_22 rfl rfl
theorem x44_23_0 : Rn (zG xl) 44 23 [v0, v1, v2] (.ref 0 :: st) I J Q = Rn (zG xl) 44 26 [v0, v1, v2] (.ref 8 :: st) I J Q := (rGf f44_23 rfl).trans (tr_and rfl)
theorem x44_26 : Rn S 44 26 [v0, .int a, v2] st I J Q = Rn S 44 27 [v0, .int a, v2] (.int a :: st) I J Q := rL f44_26 rfl rfl
theorem x44_27_8 : Rn (zG xl) 44 27 [v0, v1, v2] (.int a :: .ref 8 :: st) I J Q = Rn (zG xl) 44 30 [v0, v1, v2] st (zr I 8 (upd (I 8) 14 a)) J Q := (rPf f44_27 rfl).trans (tr_pf rfl rfl rfl)
theorem x44_27_28 : Rn (zG xl) 44 27 [v0, v1, v2] (.int a :: .ref 28 :: st) I J Q = Rn (zG xl) 44 30 [v0, v1, v2] st (zr I 28 (upd (I 28) 14 a)) J Q := (rPf f44_27 rfl).trans (tr_pf rfl rfl rfl)
theorem x44_30 : Rn S 44 30 [.ref q, v1, v2] st I J Q = Rn S 44 31 [.ref q, v1, v2] (.ref q :: st) I J Q := rL f44_30 rfl rfl
theorem x44_31_0 : Rn (zG xl) 44 31 [v0, v1, v2] (.ref 0 :: st) I J Q = Rn (zG xl) 44 34 [v0, v1, v2] (.ref 18 :: st) I J Q := (rGf f44_31 rfl).trans (tr_and rfl)
theorem x44_34 : Rn S 44 34 [.ref q, v1, v2] st I J Q = Rn S 44 35 [.ref q, v1, v2] (.ref q :: st) I J Q := rL f44_34 rfl rfl
theorem x44_35_0 : Rn (zG xl) 44 35 [v0, v1, v2] (.ref 0 :: st) I J Q = Rn (zG xl) 44 38 [v0, v1, v2] (.ref 8 :: st) I J Q := (rGf f44_35 rfl).trans (tr_and rfl)
theorem x44_38 : Rn S 44 38 [v0, v1, v2] (.ref q0 :: .ref q :: st) I J Q = ((zcls S q = 0 ∧ zcs st ≤ 8) ∧ Rn S 1 0 [.ref q, .ref q0, .null, .null] [] I J (fun v I' J' => Rn S 44 41 [v0, v1, v2] (v.toList ++ st) I' J' Q)) := rCV (As := [.ref q0]) f44_38 rfl rfl rfl rfl (Nat.le_of_ble_eq_true rfl)
theorem x44_41 : Rn S 44 41 [v0, v1, .int a] st I J Q = Rn S 44 42 [v0, v1, .int a] (.int a :: st) I J Q := rL f44_41 rfl rfl
theorem x44_42 : Rn S 44 42 [v0, v1, v2] [.int a] I J Q = Q (some (.int a)) I J := rR f44_42 rfl rfl rfl rfl rfl
/-! X5.event: 45 -/
theorem B45 : zB 45 = cX5_event := rfl
theorem f45_0 : zft 45 0 = some (.iload_n 1, 1) := fet B45 (by decide +kernel) (Or.inr rfl)
theorem f45_1 : zft 45 1 = some (.iload_n 2, 1) := fet B45 (by decide +kernel) (Or.inr rfl)
theorem f45_2 : zft 45 2 = some (.iload_n 3, 1) := fet B45 (by decide +kernel) (Or.inr rfl)
theorem f45_3 : zft 45 3 = some (.invokestatic 127, 3) := fet B45 (by decide +kernel) (Or.inr rfl)
theorem f45_6 : zft 45 6 = some (.ifCond .ne 6, 3) := fet B45 (by decide +kernel) (Or.inr rfl)
theorem f45_9 : zft 45 9 = some (.bipush (-2), 2) := fet B45 (by decide +kernel) (Or.inr rfl)
theorem f45_11 : zft 45 11 = some (.ireturn, 1) := fet B45 (by decide +kernel) (Or.inr rfl)
theorem f45_12 : zft 45 12 = some (.aload_n 0, 1) := fet B45 (by decide +kernel) (Or.inr rfl)
theorem f45_13 : zft 45 13 = some (.getfield 27, 3) := fet B45 (by decide +kernel) (Or.inr rfl)
theorem f45_16 : zft 45 16 = some (.getfield 131, 3) := fet B45 (by decide +kernel) (Or.inr rfl)
theorem f45_19 : zft 45 19 = some (.bipush 8, 2) := fet B45 (by decide +kernel) (Or.inr rfl)
theorem f45_21 : zft 45 21 = some (.if_icmp .lt 6, 3) := fet B45 (by decide +kernel) (Or.inr rfl)
theorem f45_24 : zft 45 24 = some (.bipush (-4), 2) := fet B45 (by decide +kernel) (Or.inr rfl)
theorem f45_26 : zft 45 26 = some (.ireturn, 1) := fet B45 (by decide +kernel) (Or.inr rfl)
theorem f45_27 : zft 45 27 = some (.aload_n 0, 1) := fet B45 (by decide +kernel) (Or.inr rfl)
theorem f45_28 : zft 45 28 = some (.getfield 27, 3) := fet B45 (by decide +kernel) (Or.inr rfl)
theorem f45_31 : zft 45 31 = some (.iload_n 1, 1) := fet B45 (by decide +kernel) (Or.inr rfl)
theorem f45_32 : zft 45 32 = some (.iload_n 2, 1) := fet B45 (by decide +kernel) (Or.inr rfl)
theorem f45_33 : zft 45 33 = some (.iload_n 3, 1) := fet B45 (by decide +kernel) (Or.inr rfl)
theorem f45_34 : zft 45 34 = some (.invokevirtual 134, 3) := fet B45 (by decide +kernel) (Or.inr rfl)
theorem f45_37 : zft 45 37 = some (.aload_n 0, 1) := fet B45 (by decide +kernel) (Or.inr rfl)
theorem f45_38 : zft 45 38 = some (.getfield 34, 3) := fet B45 (by decide +kernel) (Or.inr rfl)
theorem f45_41 : zft 45 41 = some (.aload_n 0, 1) := fet B45 (by decide +kernel) (Or.inr rfl)
theorem f45_42 : zft 45 42 = some (.getfield 27, 3) := fet B45 (by decide +kernel) (Or.inr rfl)
theorem f45_45 : zft 45 45 = some (.invokevirtual 123, 3) := fet B45 (by decide +kernel) (Or.inr rfl)
theorem f45_48 : zft 45 48 = some (.aload_n 0, 1) := fet B45 (by decide +kernel) (Or.inr rfl)
theorem f45_49 : zft 45 49 = some (.getfield 27, 3) := fet B45 (by decide +kernel) (Or.inr rfl)
theorem f45_52 : zft 45 52 = some (.getfield 131, 3) := fet B45 (by decide +kernel) (Or.inr rfl)
theorem f45_55 : zft 45 55 = some (.ireturn, 1) := fet B45 (by decide +kernel) (Or.inr rfl)
theorem x45_0 : Rn S 45 0 [v0, .int a, v2, v3] st I J Q = Rn S 45 1 [v0, .int a, v2, v3] (.int a :: st) I J Q := rL f45_0 rfl rfl
theorem x45_1 : Rn S 45 1 [v0, v1, .int a, v3] st I J Q = Rn S 45 2 [v0, v1, .int a, v3] (.int a :: st) I J Q := rL f45_1 rfl rfl
theorem x45_2 : Rn S 45 2 [v0, v1, v2, .int a] st I J Q = Rn S 45 3 [v0, v1, v2, .int a] (.int a :: st) I J Q := rL f45_2 rfl rfl
theorem x45_3 : Rn S 45 3 [v0, v1, v2, v3] (.int a2 :: .int a1 :: .int a0 :: st) I J Q = (zcs st ≤ 8 ∧ Rn S 82 0 [.int a0, .int a1, .int a2] [] I J (fun v I' J' => Rn S 45 6 [v0, v1, v2, v3] (v.toList ++ st) I' J' Q)) := rCS (As := [.int a0, .int a1, .int a2]) f45_3 rfl rfl rfl rfl (Nat.le_of_ble_eq_true rfl)
theorem x45_6 : Rn S 45 6 [v0, v1, v2, v3] (.int a :: st) I J Q = if a = 0 then Rn S 45 9 [v0, v1, v2, v3] st I J Q else Rn S 45 12 [v0, v1, v2, v3] st I J Q := rIne f45_6 rfl rfl
theorem x45_9 : Rn S 45 9 [v0, v1, v2, v3] st I J Q = Rn S 45 11 [v0, v1, v2, v3] (.int (-2) :: st) I J Q := rS f45_9 rfl
theorem x45_11 : Rn S 45 11 [v0, v1, v2, v3] [.int a] I J Q = Q (some (.int a)) I J := rR f45_11 rfl rfl rfl rfl rfl
theorem x45_12 : Rn S 45 12 [.ref q, v1, v2, v3] st I J Q = Rn S 45 13 [.ref q, v1, v2, v3] (.ref q :: st) I J Q := rL f45_12 rfl rfl
theorem x45_13_0 : Rn (zG xl) 45 13 [v0, v1, v2, v3] (.ref 0 :: st) I J Q = Rn (zG xl) 45 16 [v0, v1, v2, v3] (.ref 8 :: st) I J Q := (rGf f45_13 rfl).trans (tr_and rfl)
theorem x45_16_8 : Rn (zG xl) 45 16 [v0, v1, v2, v3] (.ref 8 :: st) I J Q = Rn (zG xl) 45 19 [v0, v1, v2, v3] (.int (I 8 9) :: st) I J Q := (rGf f45_16 rfl).trans (tr_and rfl)
theorem x45_16_28 : Rn (zG xl) 45 16 [v0, v1, v2, v3] (.ref 28 :: st) I J Q = Rn (zG xl) 45 19 [v0, v1, v2, v3] (.int (I 28 9) :: st) I J Q := (rGf f45_16 rfl).trans (tr_and rfl)
theorem x45_19 : Rn S 45 19 [v0, v1, v2, v3] st I J Q = Rn S 45 21 [v0, v1, v2, v3] (.int 8 :: st) I J Q := rS f45_19 rfl
theorem x45_21 : Rn S 45 21 [v0, v1, v2, v3] (.int b :: .int a :: st) I J Q = if a < b then Rn S 45 27 [v0, v1, v2, v3] st I J Q else Rn S 45 24 [v0, v1, v2, v3] st I J Q := rClt f45_21 rfl rfl
theorem x45_24 : Rn S 45 24 [v0, v1, v2, v3] st I J Q = Rn S 45 26 [v0, v1, v2, v3] (.int (-4) :: st) I J Q := rS f45_24 rfl
theorem x45_26 : Rn S 45 26 [v0, v1, v2, v3] [.int a] I J Q = Q (some (.int a)) I J := rR f45_26 rfl rfl rfl rfl rfl
theorem x45_27 : Rn S 45 27 [.ref q, v1, v2, v3] st I J Q = Rn S 45 28 [.ref q, v1, v2, v3] (.ref q :: st) I J Q := rL f45_27 rfl rfl
theorem x45_28_0 : Rn (zG xl) 45 28 [v0, v1, v2, v3] (.ref 0 :: st) I J Q = Rn (zG xl) 45 31 [v0, v1, v2, v3] (.ref 8 :: st) I J Q := (rGf f45_28 rfl).trans (tr_and rfl)
theorem x45_31 : Rn S 45 31 [v0, .int a, v2, v3] st I J Q = Rn S 45 32 [v0, .int a, v2, v3] (.int a :: st) I J Q := rL f45_31 rfl rfl
theorem x45_32 : Rn S 45 32 [v0, v1, .int a, v3] st I J Q = Rn S 45 33 [v0, v1, .int a, v3] (.int a :: st) I J Q := rL f45_32 rfl rfl
theorem x45_33 : Rn S 45 33 [v0, v1, v2, .int a] st I J Q = Rn S 45 34 [v0, v1, v2, .int a] (.int a :: st) I J Q := rL f45_33 rfl rfl
theorem x45_34 : Rn S 45 34 [v0, v1, v2, v3] (.int a2 :: .int a1 :: .int a0 :: .ref q :: st) I J Q = ((zcls S q = 1 ∧ zcs st ≤ 8) ∧ Rn S 16 0 [.ref q, .int a0, .int a1, .int a2] [] I J (fun v I' J' => Rn S 45 37 [v0, v1, v2, v3] (v.toList ++ st) I' J' Q)) := rCV (As := [.int a0, .int a1, .int a2]) f45_34 rfl rfl rfl rfl (Nat.le_of_ble_eq_true rfl)
theorem x45_37 : Rn S 45 37 [.ref q, v1, v2, v3] st I J Q = Rn S 45 38 [.ref q, v1, v2, v3] (.ref q :: st) I J Q := rL f45_37 rfl rfl
theorem x45_38_0 : Rn (zG xl) 45 38 [v0, v1, v2, v3] (.ref 0 :: st) I J Q = Rn (zG xl) 45 41 [v0, v1, v2, v3] (.ref 18 :: st) I J Q := (rGf f45_38 rfl).trans (tr_and rfl)
theorem x45_41 : Rn S 45 41 [.ref q, v1, v2, v3] st I J Q = Rn S 45 42 [.ref q, v1, v2, v3] (.ref q :: st) I J Q := rL f45_41 rfl rfl
theorem x45_42_0 : Rn (zG xl) 45 42 [v0, v1, v2, v3] (.ref 0 :: st) I J Q = Rn (zG xl) 45 45 [v0, v1, v2, v3] (.ref 8 :: st) I J Q := (rGf f45_42 rfl).trans (tr_and rfl)
theorem x45_45 : Rn S 45 45 [v0, v1, v2, v3] (.ref q0 :: .ref q :: st) I J Q = ((zcls S q = 0 ∧ zcs st ≤ 8) ∧ Rn S 1 0 [.ref q, .ref q0, .null, .null] [] I J (fun v I' J' => Rn S 45 48 [v0, v1, v2, v3] (v.toList ++ st) I' J' Q)) := rCV (As := [.ref q0]) f45_45 rfl rfl rfl rfl (Nat.le_of_ble_eq_true rfl)
theorem x45_48 : Rn S 45 48 [.ref q, v1, v2, v3] st I J Q = Rn S 45 49 [.ref q, v1, v2, v3] (.ref q :: st) I J Q := rL f45_48 rfl rfl
theorem x45_49_0 : Rn (zG xl) 45 49 [v0, v1, v2, v3] (.ref 0 :: st) I J Q = Rn (zG xl) 45 52 [v0, v1, v2, v3] (.ref 8 :: st) I J Q := (rGf f45_49 rfl).trans (tr_and rfl)
theorem x45_52_8 : Rn (zG xl) 45 52 [v0, v1, v2, v3] (.ref 8 :: st) I J Q = Rn (zG xl) 45 55 [v0, v1, v2, v3] (.int (I 8 9) :: st) I J Q := (rGf f45_52 rfl).trans (tr_and rfl)
theorem x45_52_28 : Rn (zG xl) 45 52 [v0, v1, v2, v3] (.ref 28 :: st) I J Q = Rn (zG xl) 45 55 [v0, v1, v2, v3] (.int (I 28 9) :: st) I J Q := (rGf f45_52 rfl).trans (tr_and rfl)
theorem x45_55 : Rn S 45 55 [v0, v1, v2, v3] [.int a] I J Q = Q (some (.int a)) I J := rR f45_55 rfl rfl rfl rfl rfl
/-! X5.back: 46 -/
theorem B46 : zB 46 = cX5_back := rfl
theorem f46_0 : zft 46 0 = some (.aload_n 0, 1) := fet B46 (by decide +kernel) (Or.inr rfl)
theorem f46_1 : zft 46 1 = some (.getfield 27, 3) := fet B46 (by decide +kernel) (Or.inr rfl)
theorem f46_4 : zft 46 4 = some (.getfield 131, 3) := fet B46 (by decide +kernel) (Or.inr rfl)
theorem f46_7 : zft 46 7 = some (.ifCond .ne 6, 3) := fet B46 (by decide +kernel) (Or.inr rfl)
theorem f46_10 : zft 46 10 = some (.bipush (-3), 2) := fet B46 (by decide +kernel) (Or.inr rfl)
theorem f46_12 : zft 46 12 = some (.ireturn, 1) := fet B46 (by decide +kernel) (Or.inr rfl)
theorem f46_13 : zft 46 13 = some (.aload_n 0, 1) := fet B46 (by decide +kernel) (Or.inr rfl)
theorem f46_14 : zft 46 14 = some (.getfield 27, 3) := fet B46 (by decide +kernel) (Or.inr rfl)
theorem f46_17 : zft 46 17 = some (.dup, 1) := fet B46 (by decide +kernel) (Or.inr rfl)
theorem f46_18 : zft 46 18 = some (.getfield 131, 3) := fet B46 (by decide +kernel) (Or.inr rfl)
theorem f46_21 : zft 46 21 = some (.iconst 1, 1) := fet B46 (by decide +kernel) (Or.inr rfl)
theorem f46_22 : zft 46 22 = some (.isub, 1) := fet B46 (by decide +kernel) (Or.inr rfl)
theorem f46_23 : zft 46 23 = some (.putfield 131, 3) := fet B46 (by decide +kernel) (Or.inr rfl)
theorem f46_26 : zft 46 26 = some (.aload_n 0, 1) := fet B46 (by decide +kernel) (Or.inr rfl)
theorem f46_27 : zft 46 27 = some (.getfield 34, 3) := fet B46 (by decide +kernel) (Or.inr rfl)
theorem f46_30 : zft 46 30 = some (.aload_n 0, 1) := fet B46 (by decide +kernel) (Or.inr rfl)
theorem f46_31 : zft 46 31 = some (.getfield 27, 3) := fet B46 (by decide +kernel) (Or.inr rfl)
theorem f46_34 : zft 46 34 = some (.invokevirtual 123, 3) := fet B46 (by decide +kernel) (Or.inr rfl)
theorem f46_37 : zft 46 37 = some (.aload_n 0, 1) := fet B46 (by decide +kernel) (Or.inr rfl)
theorem f46_38 : zft 46 38 = some (.getfield 27, 3) := fet B46 (by decide +kernel) (Or.inr rfl)
theorem f46_41 : zft 46 41 = some (.getfield 131, 3) := fet B46 (by decide +kernel) (Or.inr rfl)
theorem f46_44 : zft 46 44 = some (.ireturn, 1) := fet B46 (by decide +kernel) (Or.inr rfl)
theorem x46_0 : Rn S 46 0 [.ref q] st I J Q = Rn S 46 1 [.ref q] (.ref q :: st) I J Q := rL f46_0 rfl rfl
theorem x46_1_0 : Rn (zG xl) 46 1 [v0] (.ref 0 :: st) I J Q = Rn (zG xl) 46 4 [v0] (.ref 8 :: st) I J Q := (rGf f46_1 rfl).trans (tr_and rfl)
theorem x46_4_8 : Rn (zG xl) 46 4 [v0] (.ref 8 :: st) I J Q = Rn (zG xl) 46 7 [v0] (.int (I 8 9) :: st) I J Q := (rGf f46_4 rfl).trans (tr_and rfl)
theorem x46_4_28 : Rn (zG xl) 46 4 [v0] (.ref 28 :: st) I J Q = Rn (zG xl) 46 7 [v0] (.int (I 28 9) :: st) I J Q := (rGf f46_4 rfl).trans (tr_and rfl)
theorem x46_7 : Rn S 46 7 [v0] (.int a :: st) I J Q = if a = 0 then Rn S 46 10 [v0] st I J Q else Rn S 46 13 [v0] st I J Q := rIne f46_7 rfl rfl
theorem x46_10 : Rn S 46 10 [v0] st I J Q = Rn S 46 12 [v0] (.int (-3) :: st) I J Q := rS f46_10 rfl
theorem x46_12 : Rn S 46 12 [v0] [.int a] I J Q = Q (some (.int a)) I J := rR f46_12 rfl rfl rfl rfl rfl
theorem x46_13 : Rn S 46 13 [.ref q] st I J Q = Rn S 46 14 [.ref q] (.ref q :: st) I J Q := rL f46_13 rfl rfl
theorem x46_14_0 : Rn (zG xl) 46 14 [v0] (.ref 0 :: st) I J Q = Rn (zG xl) 46 17 [v0] (.ref 8 :: st) I J Q := (rGf f46_14 rfl).trans (tr_and rfl)
theorem x46_17i : Rn S 46 17 [v0] (.int a :: st) I J Q = Rn S 46 18 [v0] (.int a :: .int a :: st) I J Q := rS f46_17 rfl
theorem x46_17r : Rn S 46 17 [v0] (.ref q :: st) I J Q = Rn S 46 18 [v0] (.ref q :: .ref q :: st) I J Q := rS f46_17 rfl
theorem x46_18_8 : Rn (zG xl) 46 18 [v0] (.ref 8 :: st) I J Q = Rn (zG xl) 46 21 [v0] (.int (I 8 9) :: st) I J Q := (rGf f46_18 rfl).trans (tr_and rfl)
theorem x46_18_28 : Rn (zG xl) 46 18 [v0] (.ref 28 :: st) I J Q = Rn (zG xl) 46 21 [v0] (.int (I 28 9) :: st) I J Q := (rGf f46_18 rfl).trans (tr_and rfl)
theorem x46_21 : Rn S 46 21 [v0] st I J Q = Rn S 46 22 [v0] (.int 1 :: st) I J Q := rS f46_21 rfl
theorem x46_22 : Rn S 46 22 [v0] (.int b :: .int a :: st) I J Q = Rn S 46 23 [v0] (.int (a - b) :: st) I J Q := rS f46_22 rfl
theorem x46_23_8 : Rn (zG xl) 46 23 [v0] (.int a :: .ref 8 :: st) I J Q = Rn (zG xl) 46 26 [v0] st (zr I 8 (upd (I 8) 9 a)) J Q := (rPf f46_23 rfl).trans (tr_pf rfl rfl rfl)
theorem x46_23_28 : Rn (zG xl) 46 23 [v0] (.int a :: .ref 28 :: st) I J Q = Rn (zG xl) 46 26 [v0] st (zr I 28 (upd (I 28) 9 a)) J Q := (rPf f46_23 rfl).trans (tr_pf rfl rfl rfl)
theorem x46_26 : Rn S 46 26 [.ref q] st I J Q = Rn S 46 27 [.ref q] (.ref q :: st) I J Q := rL f46_26 rfl rfl
theorem x46_27_0 : Rn (zG xl) 46 27 [v0] (.ref 0 :: st) I J Q = Rn (zG xl) 46 30 [v0] (.ref 18 :: st) I J Q := (rGf f46_27 rfl).trans (tr_and rfl)
theorem x46_30 : Rn S 46 30 [.ref q] st I J Q = Rn S 46 31 [.ref q] (.ref q :: st) I J Q := rL f46_30 rfl rfl
theorem x46_31_0 : Rn (zG xl) 46 31 [v0] (.ref 0 :: st) I J Q = Rn (zG xl) 46 34 [v0] (.ref 8 :: st) I J Q := (rGf f46_31 rfl).trans (tr_and rfl)
theorem x46_34 : Rn S 46 34 [v0] (.ref q0 :: .ref q :: st) I J Q = ((zcls S q = 0 ∧ zcs st ≤ 8) ∧ Rn S 1 0 [.ref q, .ref q0, .null, .null] [] I J (fun v I' J' => Rn S 46 37 [v0] (v.toList ++ st) I' J' Q)) := rCV (As := [.ref q0]) f46_34 rfl rfl rfl rfl (Nat.le_of_ble_eq_true rfl)
theorem x46_37 : Rn S 46 37 [.ref q] st I J Q = Rn S 46 38 [.ref q] (.ref q :: st) I J Q := rL f46_37 rfl rfl
theorem x46_38_0 : Rn (zG xl) 46 38 [v0] (.ref 0 :: st) I J Q = Rn (zG xl) 46 41 [v0] (.ref 8 :: st) I J Q := (rGf f46_38 rfl).trans (tr_and rfl)
theorem x46_41_8 : Rn (zG xl) 46 41 [v0] (.ref 8 :: st) I J Q = Rn (zG xl) 46 44 [v0] (.int (I 8 9) :: st) I J Q := (rGf f46_41 rfl).trans (tr_and rfl)
theorem x46_41_28 : Rn (zG xl) 46 41 [v0] (.ref 28 :: st) I J Q = Rn (zG xl) 46 44 [v0] (.int (I 28 9) :: st) I J Q := (rGf f46_41 rfl).trans (tr_and rfl)
theorem x46_44 : Rn S 46 44 [v0] [.int a] I J Q = Q (some (.int a)) I J := rR f46_44 rfl rfl rfl rfl rfl
/-! X5.read: 47 -/
theorem B47 : zB 47 = cX5_read := rfl
theorem f47_0 : zft 47 0 = some (.iload_n 1, 1) := fet B47 (by decide +kernel) (Or.inr rfl)
theorem f47_1 : zft 47 1 = some (.iconst 4, 1) := fet B47 (by decide +kernel) (Or.inr rfl)
theorem f47_2 : zft 47 2 = some (.invokestatic 72, 3) := fet B47 (by decide +kernel) (Or.inr rfl)
theorem f47_5 : zft 47 5 = some (.ifCond .ne 6, 3) := fet B47 (by decide +kernel) (Or.inr rfl)
theorem f47_8 : zft 47 8 = some (.bipush (-2), 2) := fet B47 (by decide +kernel) (Or.inr rfl)
theorem f47_10 : zft 47 10 = some (.ireturn, 1) := fet B47 (by decide +kernel) (Or.inr rfl)
theorem f47_11 : zft 47 11 = some (.aload_n 0, 1) := fet B47 (by decide +kernel) (Or.inr rfl)
theorem f47_12 : zft 47 12 = some (.getfield 54, 3) := fet B47 (by decide +kernel) (Or.inr rfl)
theorem f47_15 : zft 47 15 = some (.iload_n 1, 1) := fet B47 (by decide +kernel) (Or.inr rfl)
theorem f47_16 : zft 47 16 = some (.aaload, 1) := fet B47 (by decide +kernel) (Or.inr rfl)
theorem f47_17 : zft 47 17 = some (.astore_n 2, 1) := fet B47 (by decide +kernel) (Or.inr rfl)
theorem f47_18 : zft 47 18 = some (.aload_n 2, 1) := fet B47 (by decide +kernel) (Or.inr rfl)
theorem f47_19 : zft 47 19 = some (.getfield 138, 3) := fet B47 (by decide +kernel) (Or.inr rfl)
theorem f47_22 : zft 47 22 = some (.ifCond .eq 9, 3) := fet B47 (by decide +kernel) (Or.inr rfl)
theorem f47_25 : zft 47 25 = some (.aload_n 0, 1) := fet B47 (by decide +kernel) (Or.inr rfl)
theorem f47_26 : zft 47 26 = some (.iconst 1, 1) := fet B47 (by decide +kernel) (Or.inr rfl)
theorem f47_27 : zft 47 27 = some (.invokevirtual 142, 3) := fet B47 (by decide +kernel) (Or.inr rfl)
theorem f47_30 : zft 47 30 = some (.ireturn, 1) := fet B47 (by decide +kernel) (Or.inr rfl)
theorem f47_31 : zft 47 31 = some (.iconst 0, 1) := fet B47 (by decide +kernel) (Or.inr rfl)
theorem f47_32 : zft 47 32 = some (.istore_n 3, 1) := fet B47 (by decide +kernel) (Or.inr rfl)
theorem f47_33 : zft 47 33 = some (.iconst 0, 1) := fet B47 (by decide +kernel) (Or.inr rfl)
theorem f47_34 : zft 47 34 = some (.istore 4, 2) := fet B47 (by decide +kernel) (Or.inr rfl)
theorem f47_36 : zft 47 36 = some (.iload 4, 2) := fet B47 (by decide +kernel) (Or.inr rfl)
theorem f47_38 : zft 47 38 = some (.iconst 2, 1) := fet B47 (by decide +kernel) (Or.inr rfl)
theorem f47_39 : zft 47 39 = some (.iadd, 1) := fet B47 (by decide +kernel) (Or.inr rfl)
theorem f47_40 : zft 47 40 = some (.aload_n 2, 1) := fet B47 (by decide +kernel) (Or.inr rfl)
theorem f47_41 : zft 47 41 = some (.getfield 146, 3) := fet B47 (by decide +kernel) (Or.inr rfl)
theorem f47_44 : zft 47 44 = some (.if_icmp .ge 83, 3) := fet B47 (by decide +kernel) (Or.inr rfl)
theorem f47_47 : zft 47 47 = some (.aload_n 0, 1) := fet B47 (by decide +kernel) (Or.inr rfl)
theorem f47_48 : zft 47 48 = some (.getfield 27, 3) := fet B47 (by decide +kernel) (Or.inr rfl)
theorem f47_51 : zft 47 51 = some (.getfield 131, 3) := fet B47 (by decide +kernel) (Or.inr rfl)
theorem f47_54 : zft 47 54 = some (.bipush 8, 2) := fet B47 (by decide +kernel) (Or.inr rfl)
theorem f47_56 : zft 47 56 = some (.if_icmp .ge 71, 3) := fet B47 (by decide +kernel) (Or.inr rfl)
theorem f47_59 : zft 47 59 = some (.aload_n 2, 1) := fet B47 (by decide +kernel) (Or.inr rfl)
theorem f47_60 : zft 47 60 = some (.getfield 147, 3) := fet B47 (by decide +kernel) (Or.inr rfl)
theorem f47_63 : zft 47 63 = some (.iload 4, 2) := fet B47 (by decide +kernel) (Or.inr rfl)
theorem f47_65 : zft 47 65 = some (.iaload, 1) := fet B47 (by decide +kernel) (Or.inr rfl)
theorem f47_66 : zft 47 66 = some (.istore 5, 2) := fet B47 (by decide +kernel) (Or.inr rfl)
theorem f47_68 : zft 47 68 = some (.aload_n 2, 1) := fet B47 (by decide +kernel) (Or.inr rfl)
theorem f47_69 : zft 47 69 = some (.getfield 147, 3) := fet B47 (by decide +kernel) (Or.inr rfl)
theorem f47_72 : zft 47 72 = some (.iload 4, 2) := fet B47 (by decide +kernel) (Or.inr rfl)
theorem f47_74 : zft 47 74 = some (.iconst 1, 1) := fet B47 (by decide +kernel) (Or.inr rfl)
theorem f47_75 : zft 47 75 = some (.iadd, 1) := fet B47 (by decide +kernel) (Or.inr rfl)
theorem f47_76 : zft 47 76 = some (.iaload, 1) := fet B47 (by decide +kernel) (Or.inr rfl)
theorem f47_77 : zft 47 77 = some (.istore 6, 2) := fet B47 (by decide +kernel) (Or.inr rfl)
theorem f47_79 : zft 47 79 = some (.aload_n 2, 1) := fet B47 (by decide +kernel) (Or.inr rfl)
theorem f47_80 : zft 47 80 = some (.getfield 147, 3) := fet B47 (by decide +kernel) (Or.inr rfl)
theorem f47_83 : zft 47 83 = some (.iload 4, 2) := fet B47 (by decide +kernel) (Or.inr rfl)
theorem f47_85 : zft 47 85 = some (.iconst 2, 1) := fet B47 (by decide +kernel) (Or.inr rfl)
theorem f47_86 : zft 47 86 = some (.iadd, 1) := fet B47 (by decide +kernel) (Or.inr rfl)
theorem f47_87 : zft 47 87 = some (.iaload, 1) := fet B47 (by decide +kernel) (Or.inr rfl)
theorem f47_88 : zft 47 88 = some (.istore 7, 2) := fet B47 (by decide +kernel) (Or.inr rfl)
theorem f47_90 : zft 47 90 = some (.iload 5, 2) := fet B47 (by decide +kernel) (Or.inr rfl)
theorem f47_92 : zft 47 92 = some (.iload 6, 2) := fet B47 (by decide +kernel) (Or.inr rfl)
theorem f47_94 : zft 47 94 = some (.iload 7, 2) := fet B47 (by decide +kernel) (Or.inr rfl)
theorem f47_96 : zft 47 96 = some (.invokestatic 127, 3) := fet B47 (by decide +kernel) (Or.inr rfl)
theorem f47_99 : zft 47 99 = some (.ifCond .ne 6, 3) := fet B47 (by decide +kernel) (Or.inr rfl)
theorem f47_102 : zft 47 102 = some (.goto 25, 3) := fet B47 (by decide +kernel) (Or.inr rfl)
theorem f47_105 : zft 47 105 = some (.aload_n 0, 1) := fet B47 (by decide +kernel) (Or.inr rfl)
theorem f47_106 : zft 47 106 = some (.getfield 27, 3) := fet B47 (by decide +kernel) (Or.inr rfl)
theorem f47_109 : zft 47 109 = some (.iload 5, 2) := fet B47 (by decide +kernel) (Or.inr rfl)
theorem f47_111 : zft 47 111 = some (.iload 6, 2) := fet B47 (by decide +kernel) (Or.inr rfl)
theorem f47_113 : zft 47 113 = some (.iload 7, 2) := fet B47 (by decide +kernel) (Or.inr rfl)
theorem f47_115 : zft 47 115 = some (.invokevirtual 134, 3) := fet B47 (by decide +kernel) (Or.inr rfl)
theorem f47_118 : zft 47 118 = some (.iinc 3 1, 3) := fet B47 (by decide +kernel) (Or.inr rfl)
theorem f47_121 : zft 47 121 = some (.iinc 4 3, 3) := fet B47 (by decide +kernel) (Or.inr rfl)
theorem f47_124 : zft 47 124 = some (.goto (-88), 3) := fet B47 (by decide +kernel) (Or.inr rfl)
theorem f47_127 : zft 47 127 = some (.aload_n 0, 1) := fet B47 (by decide +kernel) (Or.inr rfl)
theorem f47_128 : zft 47 128 = some (.getfield 34, 3) := fet B47 (by decide +kernel) (Or.inr rfl)
theorem f47_131 : zft 47 131 = some (.aload_n 0, 1) := fet B47 (by decide +kernel) (Or.inr rfl)
theorem f47_132 : zft 47 132 = some (.getfield 27, 3) := fet B47 (by decide +kernel) (Or.inr rfl)
theorem f47_135 : zft 47 135 = some (.invokevirtual 123, 3) := fet B47 (by decide +kernel) (Or.inr rfl)
theorem f47_138 : zft 47 138 = some (.iload_n 3, 1) := fet B47 (by decide +kernel) (Or.inr rfl)
theorem f47_139 : zft 47 139 = some (.ireturn, 1) := fet B47 (by decide +kernel) (Or.inr rfl)
theorem x47_0 : Rn S 47 0 [v0, .int a, v2, v3, v4, v5, v6, v7] st I J Q = Rn S 47 1 [v0, .int a, v2, v3, v4, v5, v6, v7] (.int a :: st) I J Q := rL f47_0 rfl rfl
theorem x47_1 : Rn S 47 1 [v0, v1, v2, v3, v4, v5, v6, v7] st I J Q = Rn S 47 2 [v0, v1, v2, v3, v4, v5, v6, v7] (.int 4 :: st) I J Q := rS f47_1 rfl
theorem x47_2 : Rn S 47 2 [v0, v1, v2, v3, v4, v5, v6, v7] (.int a1 :: .int a0 :: st) I J Q = (zcs st ≤ 8 ∧ Rn S 81 0 [.int a0, .int a1] [] I J (fun v I' J' => Rn S 47 5 [v0, v1, v2, v3, v4, v5, v6, v7] (v.toList ++ st) I' J' Q)) := rCS (As := [.int a0, .int a1]) f47_2 rfl rfl rfl rfl (Nat.le_of_ble_eq_true rfl)
theorem x47_5 : Rn S 47 5 [v0, v1, v2, v3, v4, v5, v6, v7] (.int a :: st) I J Q = if a = 0 then Rn S 47 8 [v0, v1, v2, v3, v4, v5, v6, v7] st I J Q else Rn S 47 11 [v0, v1, v2, v3, v4, v5, v6, v7] st I J Q := rIne f47_5 rfl rfl
theorem x47_8 : Rn S 47 8 [v0, v1, v2, v3, v4, v5, v6, v7] st I J Q = Rn S 47 10 [v0, v1, v2, v3, v4, v5, v6, v7] (.int (-2) :: st) I J Q := rS f47_8 rfl
theorem x47_10 : Rn S 47 10 [v0, v1, v2, v3, v4, v5, v6, v7] [.int a] I J Q = Q (some (.int a)) I J := rR f47_10 rfl rfl rfl rfl rfl
theorem x47_11 : Rn S 47 11 [.ref q, v1, v2, v3, v4, v5, v6, v7] st I J Q = Rn S 47 12 [.ref q, v1, v2, v3, v4, v5, v6, v7] (.ref q :: st) I J Q := rL f47_11 rfl rfl
theorem x47_12_0 : Rn (zG xl) 47 12 [v0, v1, v2, v3, v4, v5, v6, v7] (.ref 0 :: st) I J Q = Rn (zG xl) 47 15 [v0, v1, v2, v3, v4, v5, v6, v7] (.ref 52 :: st) I J Q := (rGf f47_12 rfl).trans (tr_and rfl)
theorem x47_15 : Rn S 47 15 [v0, .int a, v2, v3, v4, v5, v6, v7] st I J Q = Rn S 47 16 [v0, .int a, v2, v3, v4, v5, v6, v7] (.int a :: st) I J Q := rL f47_15 rfl rfl
theorem x47_16 : Rn S 47 16 [v0, v1, v2, v3, v4, v5, v6, v7] (.int a :: .ref q :: st) I J Q = (zar S q a ∧ Rn S 47 17 [v0, v1, v2, v3, v4, v5, v6, v7] (zra S q a.toNatClampNeg :: st) I J Q) := rAal f47_16
theorem x47_17 : Rn S 47 17 [v0, v1, v2, v3, v4, v5, v6, v7] (.ref q :: st) I J Q = Rn S 47 18 [v0, zkl v1, .ref q, v3, v4, v5, v6, v7] st I J Q := rL f47_17 rfl rfl
theorem x47_18 : Rn S 47 18 [v0, v1, .ref q, v3, v4, v5, v6, v7] st I J Q = Rn S 47 19 [v0, v1, .ref q, v3, v4, v5, v6, v7] (.ref q :: st) I J Q := rL f47_18 rfl rfl
theorem x47_19_53 : Rn (zG xl) 47 19 [v0, v1, v2, v3, v4, v5, v6, v7] (.ref 53 :: st) I J Q = Rn (zG xl) 47 22 [v0, v1, v2, v3, v4, v5, v6, v7] (.int (I 53 0) :: st) I J Q := (rGf f47_19 rfl).trans (tr_and rfl)
theorem x47_19_55 : Rn (zG xl) 47 19 [v0, v1, v2, v3, v4, v5, v6, v7] (.ref 55 :: st) I J Q = Rn (zG xl) 47 22 [v0, v1, v2, v3, v4, v5, v6, v7] (.int (I 55 0) :: st) I J Q := (rGf f47_19 rfl).trans (tr_and rfl)
theorem x47_19_57 : Rn (zG xl) 47 19 [v0, v1, v2, v3, v4, v5, v6, v7] (.ref 57 :: st) I J Q = Rn (zG xl) 47 22 [v0, v1, v2, v3, v4, v5, v6, v7] (.int (I 57 0) :: st) I J Q := (rGf f47_19 rfl).trans (tr_and rfl)
theorem x47_19_59 : Rn (zG xl) 47 19 [v0, v1, v2, v3, v4, v5, v6, v7] (.ref 59 :: st) I J Q = Rn (zG xl) 47 22 [v0, v1, v2, v3, v4, v5, v6, v7] (.int (I 59 0) :: st) I J Q := (rGf f47_19 rfl).trans (tr_and rfl)
theorem x47_22 : Rn S 47 22 [v0, v1, v2, v3, v4, v5, v6, v7] (.int a :: st) I J Q = if a = 0 then Rn S 47 31 [v0, v1, v2, v3, v4, v5, v6, v7] st I J Q else Rn S 47 25 [v0, v1, v2, v3, v4, v5, v6, v7] st I J Q := rIeq f47_22 rfl rfl
theorem x47_25 : Rn S 47 25 [.ref q, v1, v2, v3, v4, v5, v6, v7] st I J Q = Rn S 47 26 [.ref q, v1, v2, v3, v4, v5, v6, v7] (.ref q :: st) I J Q := rL f47_25 rfl rfl
theorem x47_26 : Rn S 47 26 [v0, v1, v2, v3, v4, v5, v6, v7] st I J Q = Rn S 47 27 [v0, v1, v2, v3, v4, v5, v6, v7] (.int 1 :: st) I J Q := rS f47_26 rfl
theorem x47_27 : Rn S 47 27 [v0, v1, v2, v3, v4, v5, v6, v7] (.int a0 :: .ref q :: st) I J Q = ((zcls S q = 5 ∧ zcs st ≤ 8) ∧ Rn S 83 0 [.ref q, .int a0] [] I J (fun v I' J' => Rn S 47 30 [v0, v1, v2, v3, v4, v5, v6, v7] (v.toList ++ st) I' J' Q)) := rCV (As := [.int a0]) f47_27 rfl rfl rfl rfl (Nat.le_of_ble_eq_true rfl)
theorem x47_30 : Rn S 47 30 [v0, v1, v2, v3, v4, v5, v6, v7] [.int a] I J Q = Q (some (.int a)) I J := rR f47_30 rfl rfl rfl rfl rfl
theorem x47_31 : Rn S 47 31 [v0, v1, v2, v3, v4, v5, v6, v7] st I J Q = Rn S 47 32 [v0, v1, v2, v3, v4, v5, v6, v7] (.int 0 :: st) I J Q := rS f47_31 rfl
theorem x47_32 : Rn S 47 32 [v0, v1, v2, v3, v4, v5, v6, v7] (.int a :: st) I J Q = Rn S 47 33 [v0, v1, zkl v2, .int a, v4, v5, v6, v7] st I J Q := rL f47_32 rfl rfl
theorem x47_33 : Rn S 47 33 [v0, v1, v2, v3, v4, v5, v6, v7] st I J Q = Rn S 47 34 [v0, v1, v2, v3, v4, v5, v6, v7] (.int 0 :: st) I J Q := rS f47_33 rfl
theorem x47_34 : Rn S 47 34 [v0, v1, v2, v3, v4, v5, v6, v7] (.int a :: st) I J Q = Rn S 47 36 [v0, v1, v2, zkl v3, .int a, v5, v6, v7] st I J Q := rL f47_34 rfl rfl
theorem h47_36 : Rn S 47 36 [v0, v1, v2, v3, .int a, v5, v6, v7] st I J Q = Rn S 47 38 [v0, v1, v2, v3, .int a, v5, v6, v7] (.int a :: st) I J Q := rL f47_36 rfl rfl
theorem x47_38 : Rn S 47 38 [v0, v1, v2, v3, v4, v5, v6, v7] st I J Q = Rn S 47 39 [v0, v1, v2, v3, v4, v5, v6, v7] (.int 2 :: st) I J Q := rS f47_38 rfl
theorem x47_39 : Rn S 47 39 [v0, v1, v2, v3, v4, v5, v6, v7] (.int b :: .int a :: st) I J Q = Rn S 47 40 [v0, v1, v2, v3, v4, v5, v6, v7] (.int (a + b) :: st) I J Q := rS f47_39 rfl
theorem x47_40 : Rn S 47 40 [v0, v1, .ref q, v3, v4, v5, v6, v7] st I J Q = Rn S 47 41 [v0, v1, .ref q, v3, v4, v5, v6, v7] (.ref q :: st) I J Q := rL f47_40 rfl rfl
theorem x47_41_53 : Rn (zG xl) 47 41 [v0, v1, v2, v3, v4, v5, v6, v7] (.ref 53 :: st) I J Q = Rn (zG xl) 47 44 [v0, v1, v2, v3, v4, v5, v6, v7] (.int (I 53 2) :: st) I J Q := (rGf f47_41 rfl).trans (tr_and rfl)
theorem x47_41_55 : Rn (zG xl) 47 41 [v0, v1, v2, v3, v4, v5, v6, v7] (.ref 55 :: st) I J Q = Rn (zG xl) 47 44 [v0, v1, v2, v3, v4, v5, v6, v7] (.int (I 55 2) :: st) I J Q := (rGf f47_41 rfl).trans (tr_and rfl)
theorem x47_41_57 : Rn (zG xl) 47 41 [v0, v1, v2, v3, v4, v5, v6, v7] (.ref 57 :: st) I J Q = Rn (zG xl) 47 44 [v0, v1, v2, v3, v4, v5, v6, v7] (.int (I 57 2) :: st) I J Q := (rGf f47_41 rfl).trans (tr_and rfl)
theorem x47_41_59 : Rn (zG xl) 47 41 [v0, v1, v2, v3, v4, v5, v6, v7] (.ref 59 :: st) I J Q = Rn (zG xl) 47 44 [v0, v1, v2, v3, v4, v5, v6, v7] (.int (I 59 2) :: st) I J Q := (rGf f47_41 rfl).trans (tr_and rfl)
theorem x47_44 : Rn S 47 44 [v0, v1, v2, v3, v4, v5, v6, v7] (.int b :: .int a :: st) I J Q = if a < b then Rn S 47 47 [v0, v1, v2, v3, v4, v5, v6, v7] st I J Q else Rn S 47 127 [v0, v1, v2, v3, v4, v5, v6, v7] st I J Q := rCge f47_44 rfl rfl
theorem x47_47 : Rn S 47 47 [.ref q, v1, v2, v3, v4, v5, v6, v7] st I J Q = Rn S 47 48 [.ref q, v1, v2, v3, v4, v5, v6, v7] (.ref q :: st) I J Q := rL f47_47 rfl rfl
theorem x47_48_0 : Rn (zG xl) 47 48 [v0, v1, v2, v3, v4, v5, v6, v7] (.ref 0 :: st) I J Q = Rn (zG xl) 47 51 [v0, v1, v2, v3, v4, v5, v6, v7] (.ref 8 :: st) I J Q := (rGf f47_48 rfl).trans (tr_and rfl)
theorem x47_51_8 : Rn (zG xl) 47 51 [v0, v1, v2, v3, v4, v5, v6, v7] (.ref 8 :: st) I J Q = Rn (zG xl) 47 54 [v0, v1, v2, v3, v4, v5, v6, v7] (.int (I 8 9) :: st) I J Q := (rGf f47_51 rfl).trans (tr_and rfl)
theorem x47_51_28 : Rn (zG xl) 47 51 [v0, v1, v2, v3, v4, v5, v6, v7] (.ref 28 :: st) I J Q = Rn (zG xl) 47 54 [v0, v1, v2, v3, v4, v5, v6, v7] (.int (I 28 9) :: st) I J Q := (rGf f47_51 rfl).trans (tr_and rfl)
theorem x47_54 : Rn S 47 54 [v0, v1, v2, v3, v4, v5, v6, v7] st I J Q = Rn S 47 56 [v0, v1, v2, v3, v4, v5, v6, v7] (.int 8 :: st) I J Q := rS f47_54 rfl
theorem x47_56 : Rn S 47 56 [v0, v1, v2, v3, v4, v5, v6, v7] (.int b :: .int a :: st) I J Q = if a < b then Rn S 47 59 [v0, v1, v2, v3, v4, v5, v6, v7] st I J Q else Rn S 47 127 [v0, v1, v2, v3, v4, v5, v6, v7] st I J Q := rCge f47_56 rfl rfl
theorem x47_59 : Rn S 47 59 [v0, v1, .ref q, v3, v4, v5, v6, v7] st I J Q = Rn S 47 60 [v0, v1, .ref q, v3, v4, v5, v6, v7] (.ref q :: st) I J Q := rL f47_59 rfl rfl
theorem x47_60_53 : Rn (zG xl) 47 60 [v0, v1, v2, v3, v4, v5, v6, v7] (.ref 53 :: st) I J Q = Rn (zG xl) 47 63 [v0, v1, v2, v3, v4, v5, v6, v7] (.ref 54 :: st) I J Q := (rGf f47_60 rfl).trans (tr_and rfl)
theorem x47_60_55 : Rn (zG xl) 47 60 [v0, v1, v2, v3, v4, v5, v6, v7] (.ref 55 :: st) I J Q = Rn (zG xl) 47 63 [v0, v1, v2, v3, v4, v5, v6, v7] (.ref 56 :: st) I J Q := (rGf f47_60 rfl).trans (tr_and rfl)
theorem x47_60_57 : Rn (zG xl) 47 60 [v0, v1, v2, v3, v4, v5, v6, v7] (.ref 57 :: st) I J Q = Rn (zG xl) 47 63 [v0, v1, v2, v3, v4, v5, v6, v7] (.ref 58 :: st) I J Q := (rGf f47_60 rfl).trans (tr_and rfl)
theorem x47_60_59 : Rn (zG xl) 47 60 [v0, v1, v2, v3, v4, v5, v6, v7] (.ref 59 :: st) I J Q = Rn (zG xl) 47 63 [v0, v1, v2, v3, v4, v5, v6, v7] (.ref 60 :: st) I J Q := (rGf f47_60 rfl).trans (tr_and rfl)
theorem x47_63 : Rn S 47 63 [v0, v1, v2, v3, .int a, v5, v6, v7] st I J Q = Rn S 47 65 [v0, v1, v2, v3, .int a, v5, v6, v7] (.int a :: st) I J Q := rL f47_63 rfl rfl
theorem x47_65 : Rn S 47 65 [v0, v1, v2, v3, v4, v5, v6, v7] (.int a :: .ref q :: st) I J Q = (zai S q a ∧ Rn S 47 66 [v0, v1, v2, v3, v4, v5, v6, v7] (.int (I q a.toNatClampNeg) :: st) I J Q) := rIal f47_65
theorem x47_66 : Rn S 47 66 [v0, v1, v2, v3, v4, v5, v6, v7] (.int a :: st) I J Q = Rn S 47 68 [v0, v1, v2, v3, zkl v4, .int a, v6, v7] st I J Q := rL f47_66 rfl rfl
theorem x47_68 : Rn S 47 68 [v0, v1, .ref q, v3, v4, v5, v6, v7] st I J Q = Rn S 47 69 [v0, v1, .ref q, v3, v4, v5, v6, v7] (.ref q :: st) I J Q := rL f47_68 rfl rfl
theorem x47_69_53 : Rn (zG xl) 47 69 [v0, v1, v2, v3, v4, v5, v6, v7] (.ref 53 :: st) I J Q = Rn (zG xl) 47 72 [v0, v1, v2, v3, v4, v5, v6, v7] (.ref 54 :: st) I J Q := (rGf f47_69 rfl).trans (tr_and rfl)
theorem x47_69_55 : Rn (zG xl) 47 69 [v0, v1, v2, v3, v4, v5, v6, v7] (.ref 55 :: st) I J Q = Rn (zG xl) 47 72 [v0, v1, v2, v3, v4, v5, v6, v7] (.ref 56 :: st) I J Q := (rGf f47_69 rfl).trans (tr_and rfl)
theorem x47_69_57 : Rn (zG xl) 47 69 [v0, v1, v2, v3, v4, v5, v6, v7] (.ref 57 :: st) I J Q = Rn (zG xl) 47 72 [v0, v1, v2, v3, v4, v5, v6, v7] (.ref 58 :: st) I J Q := (rGf f47_69 rfl).trans (tr_and rfl)
theorem x47_69_59 : Rn (zG xl) 47 69 [v0, v1, v2, v3, v4, v5, v6, v7] (.ref 59 :: st) I J Q = Rn (zG xl) 47 72 [v0, v1, v2, v3, v4, v5, v6, v7] (.ref 60 :: st) I J Q := (rGf f47_69 rfl).trans (tr_and rfl)
theorem x47_72 : Rn S 47 72 [v0, v1, v2, v3, .int a, v5, v6, v7] st I J Q = Rn S 47 74 [v0, v1, v2, v3, .int a, v5, v6, v7] (.int a :: st) I J Q := rL f47_72 rfl rfl
theorem x47_74 : Rn S 47 74 [v0, v1, v2, v3, v4, v5, v6, v7] st I J Q = Rn S 47 75 [v0, v1, v2, v3, v4, v5, v6, v7] (.int 1 :: st) I J Q := rS f47_74 rfl
theorem x47_75 : Rn S 47 75 [v0, v1, v2, v3, v4, v5, v6, v7] (.int b :: .int a :: st) I J Q = Rn S 47 76 [v0, v1, v2, v3, v4, v5, v6, v7] (.int (a + b) :: st) I J Q := rS f47_75 rfl
theorem x47_76 : Rn S 47 76 [v0, v1, v2, v3, v4, v5, v6, v7] (.int a :: .ref q :: st) I J Q = (zai S q a ∧ Rn S 47 77 [v0, v1, v2, v3, v4, v5, v6, v7] (.int (I q a.toNatClampNeg) :: st) I J Q) := rIal f47_76
theorem x47_77 : Rn S 47 77 [v0, v1, v2, v3, v4, v5, v6, v7] (.int a :: st) I J Q = Rn S 47 79 [v0, v1, v2, v3, v4, zkl v5, .int a, v7] st I J Q := rL f47_77 rfl rfl
theorem x47_79 : Rn S 47 79 [v0, v1, .ref q, v3, v4, v5, v6, v7] st I J Q = Rn S 47 80 [v0, v1, .ref q, v3, v4, v5, v6, v7] (.ref q :: st) I J Q := rL f47_79 rfl rfl
theorem x47_80_53 : Rn (zG xl) 47 80 [v0, v1, v2, v3, v4, v5, v6, v7] (.ref 53 :: st) I J Q = Rn (zG xl) 47 83 [v0, v1, v2, v3, v4, v5, v6, v7] (.ref 54 :: st) I J Q := (rGf f47_80 rfl).trans (tr_and rfl)
theorem x47_80_55 : Rn (zG xl) 47 80 [v0, v1, v2, v3, v4, v5, v6, v7] (.ref 55 :: st) I J Q = Rn (zG xl) 47 83 [v0, v1, v2, v3, v4, v5, v6, v7] (.ref 56 :: st) I J Q := (rGf f47_80 rfl).trans (tr_and rfl)
theorem x47_80_57 : Rn (zG xl) 47 80 [v0, v1, v2, v3, v4, v5, v6, v7] (.ref 57 :: st) I J Q = Rn (zG xl) 47 83 [v0, v1, v2, v3, v4, v5, v6, v7] (.ref 58 :: st) I J Q := (rGf f47_80 rfl).trans (tr_and rfl)
theorem x47_80_59 : Rn (zG xl) 47 80 [v0, v1, v2, v3, v4, v5, v6, v7] (.ref 59 :: st) I J Q = Rn (zG xl) 47 83 [v0, v1, v2, v3, v4, v5, v6, v7] (.ref 60 :: st) I J Q := (rGf f47_80 rfl).trans (tr_and rfl)
theorem x47_83 : Rn S 47 83 [v0, v1, v2, v3, .int a, v5, v6, v7] st I J Q = Rn S 47 85 [v0, v1, v2, v3, .int a, v5, v6, v7] (.int a :: st) I J Q := rL f47_83 rfl rfl
theorem x47_85 : Rn S 47 85 [v0, v1, v2, v3, v4, v5, v6, v7] st I J Q = Rn S 47 86 [v0, v1, v2, v3, v4, v5, v6, v7] (.int 2 :: st) I J Q := rS f47_85 rfl
theorem x47_86 : Rn S 47 86 [v0, v1, v2, v3, v4, v5, v6, v7] (.int b :: .int a :: st) I J Q = Rn S 47 87 [v0, v1, v2, v3, v4, v5, v6, v7] (.int (a + b) :: st) I J Q := rS f47_86 rfl
theorem x47_87 : Rn S 47 87 [v0, v1, v2, v3, v4, v5, v6, v7] (.int a :: .ref q :: st) I J Q = (zai S q a ∧ Rn S 47 88 [v0, v1, v2, v3, v4, v5, v6, v7] (.int (I q a.toNatClampNeg) :: st) I J Q) := rIal f47_87
theorem x47_88 : Rn S 47 88 [v0, v1, v2, v3, v4, v5, v6, v7] (.int a :: st) I J Q = Rn S 47 90 [v0, v1, v2, v3, v4, v5, zkl v6, .int a] st I J Q := rL f47_88 rfl rfl
theorem x47_90 : Rn S 47 90 [v0, v1, v2, v3, v4, .int a, v6, v7] st I J Q = Rn S 47 92 [v0, v1, v2, v3, v4, .int a, v6, v7] (.int a :: st) I J Q := rL f47_90 rfl rfl
theorem x47_92 : Rn S 47 92 [v0, v1, v2, v3, v4, v5, .int a, v7] st I J Q = Rn S 47 94 [v0, v1, v2, v3, v4, v5, .int a, v7] (.int a :: st) I J Q := rL f47_92 rfl rfl
theorem x47_94 : Rn S 47 94 [v0, v1, v2, v3, v4, v5, v6, .int a] st I J Q = Rn S 47 96 [v0, v1, v2, v3, v4, v5, v6, .int a] (.int a :: st) I J Q := rL f47_94 rfl rfl
theorem x47_96 : Rn S 47 96 [v0, v1, v2, v3, v4, v5, v6, v7] (.int a2 :: .int a1 :: .int a0 :: st) I J Q = (zcs st ≤ 8 ∧ Rn S 82 0 [.int a0, .int a1, .int a2] [] I J (fun v I' J' => Rn S 47 99 [v0, v1, v2, v3, v4, v5, v6, v7] (v.toList ++ st) I' J' Q)) := rCS (As := [.int a0, .int a1, .int a2]) f47_96 rfl rfl rfl rfl (Nat.le_of_ble_eq_true rfl)
theorem x47_99 : Rn S 47 99 [v0, v1, v2, v3, v4, v5, v6, v7] (.int a :: st) I J Q = if a = 0 then Rn S 47 102 [v0, v1, v2, v3, v4, v5, v6, v7] st I J Q else Rn S 47 105 [v0, v1, v2, v3, v4, v5, v6, v7] st I J Q := rIne f47_99 rfl rfl
theorem x47_102 : Rn S 47 102 [v0, v1, v2, v3, v4, v5, v6, v7] st I J Q = Rn S 47 127 [v0, v1, v2, v3, v4, v5, v6, v7] st I J Q := rB f47_102 rfl rfl rfl
theorem x47_105 : Rn S 47 105 [.ref q, v1, v2, v3, v4, v5, v6, v7] st I J Q = Rn S 47 106 [.ref q, v1, v2, v3, v4, v5, v6, v7] (.ref q :: st) I J Q := rL f47_105 rfl rfl
theorem x47_106_0 : Rn (zG xl) 47 106 [v0, v1, v2, v3, v4, v5, v6, v7] (.ref 0 :: st) I J Q = Rn (zG xl) 47 109 [v0, v1, v2, v3, v4, v5, v6, v7] (.ref 8 :: st) I J Q := (rGf f47_106 rfl).trans (tr_and rfl)
theorem x47_109 : Rn S 47 109 [v0, v1, v2, v3, v4, .int a, v6, v7] st I J Q = Rn S 47 111 [v0, v1, v2, v3, v4, .int a, v6, v7] (.int a :: st) I J Q := rL f47_109 rfl rfl
theorem x47_111 : Rn S 47 111 [v0, v1, v2, v3, v4, v5, .int a, v7] st I J Q = Rn S 47 113 [v0, v1, v2, v3, v4, v5, .int a, v7] (.int a :: st) I J Q := rL f47_111 rfl rfl
theorem x47_113 : Rn S 47 113 [v0, v1, v2, v3, v4, v5, v6, .int a] st I J Q = Rn S 47 115 [v0, v1, v2, v3, v4, v5, v6, .int a] (.int a :: st) I J Q := rL f47_113 rfl rfl
theorem x47_115 : Rn S 47 115 [v0, v1, v2, v3, v4, v5, v6, v7] (.int a2 :: .int a1 :: .int a0 :: .ref q :: st) I J Q = ((zcls S q = 1 ∧ zcs st ≤ 8) ∧ Rn S 16 0 [.ref q, .int a0, .int a1, .int a2] [] I J (fun v I' J' => Rn S 47 118 [v0, v1, v2, v3, v4, v5, v6, v7] (v.toList ++ st) I' J' Q)) := rCV (As := [.int a0, .int a1, .int a2]) f47_115 rfl rfl rfl rfl (Nat.le_of_ble_eq_true rfl)
theorem x47_118 : Rn S 47 118 [v0, v1, v2, .int a, v4, v5, v6, v7] st I J Q = Rn S 47 121 [v0, v1, zkl v2, .int (a + 1), v4, v5, v6, v7] st I J Q := rL f47_118 rfl rfl
theorem x47_121 : Rn S 47 121 [v0, v1, v2, v3, .int a, v5, v6, v7] st I J Q = Rn S 47 124 [v0, v1, v2, zkl v3, .int (a + 3), v5, v6, v7] st I J Q := rL f47_121 rfl rfl
theorem x47_124 : Rn S 47 124 [v0, v1, v2, v3, v4, v5, v6, v7] st I J Q = Rn S 47 36 [v0, v1, v2, v3, v4, v5, v6, v7] st I J Q := rB f47_124 rfl rfl rfl
theorem x47_127 : Rn S 47 127 [.ref q, v1, v2, v3, v4, v5, v6, v7] st I J Q = Rn S 47 128 [.ref q, v1, v2, v3, v4, v5, v6, v7] (.ref q :: st) I J Q := rL f47_127 rfl rfl
theorem x47_128_0 : Rn (zG xl) 47 128 [v0, v1, v2, v3, v4, v5, v6, v7] (.ref 0 :: st) I J Q = Rn (zG xl) 47 131 [v0, v1, v2, v3, v4, v5, v6, v7] (.ref 18 :: st) I J Q := (rGf f47_128 rfl).trans (tr_and rfl)
theorem x47_131 : Rn S 47 131 [.ref q, v1, v2, v3, v4, v5, v6, v7] st I J Q = Rn S 47 132 [.ref q, v1, v2, v3, v4, v5, v6, v7] (.ref q :: st) I J Q := rL f47_131 rfl rfl
theorem x47_132_0 : Rn (zG xl) 47 132 [v0, v1, v2, v3, v4, v5, v6, v7] (.ref 0 :: st) I J Q = Rn (zG xl) 47 135 [v0, v1, v2, v3, v4, v5, v6, v7] (.ref 8 :: st) I J Q := (rGf f47_132 rfl).trans (tr_and rfl)
theorem x47_135 : Rn S 47 135 [v0, v1, v2, v3, v4, v5, v6, v7] (.ref q0 :: .ref q :: st) I J Q = ((zcls S q = 0 ∧ zcs st ≤ 8) ∧ Rn S 1 0 [.ref q, .ref q0, .null, .null] [] I J (fun v I' J' => Rn S 47 138 [v0, v1, v2, v3, v4, v5, v6, v7] (v.toList ++ st) I' J' Q)) := rCV (As := [.ref q0]) f47_135 rfl rfl rfl rfl (Nat.le_of_ble_eq_true rfl)
theorem x47_138 : Rn S 47 138 [v0, v1, v2, .int a, v4, v5, v6, v7] st I J Q = Rn S 47 139 [v0, v1, v2, .int a, v4, v5, v6, v7] (.int a :: st) I J Q := rL f47_138 rfl rfl
theorem x47_139 : Rn S 47 139 [v0, v1, v2, v3, v4, v5, v6, v7] [.int a] I J Q = Q (some (.int a)) I J := rR f47_139 rfl rfl rfl rfl rfl
/-! X5.margin: 48 -/
theorem B48 : zB 48 = cX5_margin := rfl
theorem f48_0 : zft 48 0 = some (.iload_n 1, 1) := fet B48 (by decide +kernel) (Or.inr rfl)
theorem f48_1 : zft 48 1 = some (.aload_n 0, 1) := fet B48 (by decide +kernel) (Or.inr rfl)
theorem f48_2 : zft 48 2 = some (.getfield 27, 3) := fet B48 (by decide +kernel) (Or.inr rfl)
theorem f48_5 : zft 48 5 = some (.getfield 90, 3) := fet B48 (by decide +kernel) (Or.inr rfl)
theorem f48_8 : zft 48 8 = some (.invokestatic 72, 3) := fet B48 (by decide +kernel) (Or.inr rfl)
theorem f48_11 : zft 48 11 = some (.ifCond .eq 11, 3) := fet B48 (by decide +kernel) (Or.inr rfl)
theorem f48_14 : zft 48 14 = some (.iload_n 2, 1) := fet B48 (by decide +kernel) (Or.inr rfl)
theorem f48_15 : zft 48 15 = some (.iconst 3, 1) := fet B48 (by decide +kernel) (Or.inr rfl)
theorem f48_16 : zft 48 16 = some (.invokestatic 72, 3) := fet B48 (by decide +kernel) (Or.inr rfl)
theorem f48_19 : zft 48 19 = some (.ifCond .ne 6, 3) := fet B48 (by decide +kernel) (Or.inr rfl)
theorem f48_22 : zft 48 22 = some (.bipush (-2), 2) := fet B48 (by decide +kernel) (Or.inr rfl)
theorem f48_24 : zft 48 24 = some (.ireturn, 1) := fet B48 (by decide +kernel) (Or.inr rfl)
theorem f48_25 : zft 48 25 = some (.iload_n 2, 1) := fet B48 (by decide +kernel) (Or.inr rfl)
theorem f48_26 : zft 48 26 = some (.ifCond .ne 13, 3) := fet B48 (by decide +kernel) (Or.inr rfl)
theorem f48_29 : zft 48 29 = some (.aload_n 0, 1) := fet B48 (by decide +kernel) (Or.inr rfl)
theorem f48_30 : zft 48 30 = some (.getfield 34, 3) := fet B48 (by decide +kernel) (Or.inr rfl)
theorem f48_33 : zft 48 33 = some (.getfield 150, 3) := fet B48 (by decide +kernel) (Or.inr rfl)
theorem f48_36 : zft 48 36 = some (.iload_n 1, 1) := fet B48 (by decide +kernel) (Or.inr rfl)
theorem f48_37 : zft 48 37 = some (.iaload, 1) := fet B48 (by decide +kernel) (Or.inr rfl)
theorem f48_38 : zft 48 38 = some (.ireturn, 1) := fet B48 (by decide +kernel) (Or.inr rfl)
theorem f48_39 : zft 48 39 = some (.iload_n 2, 1) := fet B48 (by decide +kernel) (Or.inr rfl)
theorem f48_40 : zft 48 40 = some (.iconst 1, 1) := fet B48 (by decide +kernel) (Or.inr rfl)
theorem f48_41 : zft 48 41 = some (.if_icmp .ne 15, 3) := fet B48 (by decide +kernel) (Or.inr rfl)
theorem f48_44 : zft 48 44 = some (.aload_n 0, 1) := fet B48 (by decide +kernel) (Or.inr rfl)
theorem f48_45 : zft 48 45 = some (.getfield 34, 3) := fet B48 (by decide +kernel) (Or.inr rfl)
theorem f48_48 : zft 48 48 = some (.getfield 153, 3) := fet B48 (by decide +kernel) (Or.inr rfl)
theorem f48_51 : zft 48 51 = some (.iload_n 1, 1) := fet B48 (by decide +kernel) (Or.inr rfl)
theorem f48_52 : zft 48 52 = some (.iaload, 1) := fet B48 (by decide +kernel) (Or.inr rfl)
theorem f48_53 : zft 48 53 = some (.goto 12, 3) := fet B48 (by decide +kernel) (Or.inr rfl)
theorem f48_56 : zft 48 56 = some (.aload_n 0, 1) := fet B48 (by decide +kernel) (Or.inr rfl)
theorem f48_57 : zft 48 57 = some (.getfield 34, 3) := fet B48 (by decide +kernel) (Or.inr rfl)
theorem f48_60 : zft 48 60 = some (.getfield 156, 3) := fet B48 (by decide +kernel) (Or.inr rfl)
theorem f48_63 : zft 48 63 = some (.iload_n 1, 1) := fet B48 (by decide +kernel) (Or.inr rfl)
theorem f48_64 : zft 48 64 = some (.iaload, 1) := fet B48 (by decide +kernel) (Or.inr rfl)
theorem f48_65 : zft 48 65 = some (.ireturn, 1) := fet B48 (by decide +kernel) (Or.inr rfl)
theorem x48_0 : Rn S 48 0 [v0, .int a, v2] st I J Q = Rn S 48 1 [v0, .int a, v2] (.int a :: st) I J Q := rL f48_0 rfl rfl
theorem x48_1 : Rn S 48 1 [.ref q, v1, v2] st I J Q = Rn S 48 2 [.ref q, v1, v2] (.ref q :: st) I J Q := rL f48_1 rfl rfl
theorem x48_2_0 : Rn (zG xl) 48 2 [v0, v1, v2] (.ref 0 :: st) I J Q = Rn (zG xl) 48 5 [v0, v1, v2] (.ref 8 :: st) I J Q := (rGf f48_2 rfl).trans (tr_and rfl)
theorem x48_5_8 : Rn (zG xl) 48 5 [v0, v1, v2] (.ref 8 :: st) I J Q = Rn (zG xl) 48 8 [v0, v1, v2] (.int (I 8 0) :: st) I J Q := (rGf f48_5 rfl).trans (tr_and rfl)
theorem x48_5_28 : Rn (zG xl) 48 5 [v0, v1, v2] (.ref 28 :: st) I J Q = Rn (zG xl) 48 8 [v0, v1, v2] (.int (I 28 0) :: st) I J Q := (rGf f48_5 rfl).trans (tr_and rfl)
theorem x48_8 : Rn S 48 8 [v0, v1, v2] (.int a1 :: .int a0 :: st) I J Q = (zcs st ≤ 8 ∧ Rn S 81 0 [.int a0, .int a1] [] I J (fun v I' J' => Rn S 48 11 [v0, v1, v2] (v.toList ++ st) I' J' Q)) := rCS (As := [.int a0, .int a1]) f48_8 rfl rfl rfl rfl (Nat.le_of_ble_eq_true rfl)
theorem x48_11 : Rn S 48 11 [v0, v1, v2] (.int a :: st) I J Q = if a = 0 then Rn S 48 22 [v0, v1, v2] st I J Q else Rn S 48 14 [v0, v1, v2] st I J Q := rIeq f48_11 rfl rfl
theorem x48_14 : Rn S 48 14 [v0, v1, .int a] st I J Q = Rn S 48 15 [v0, v1, .int a] (.int a :: st) I J Q := rL f48_14 rfl rfl
theorem x48_15 : Rn S 48 15 [v0, v1, v2] st I J Q = Rn S 48 16 [v0, v1, v2] (.int 3 :: st) I J Q := rS f48_15 rfl
theorem x48_16 : Rn S 48 16 [v0, v1, v2] (.int a1 :: .int a0 :: st) I J Q = (zcs st ≤ 8 ∧ Rn S 81 0 [.int a0, .int a1] [] I J (fun v I' J' => Rn S 48 19 [v0, v1, v2] (v.toList ++ st) I' J' Q)) := rCS (As := [.int a0, .int a1]) f48_16 rfl rfl rfl rfl (Nat.le_of_ble_eq_true rfl)
theorem x48_19 : Rn S 48 19 [v0, v1, v2] (.int a :: st) I J Q = if a = 0 then Rn S 48 22 [v0, v1, v2] st I J Q else Rn S 48 25 [v0, v1, v2] st I J Q := rIne f48_19 rfl rfl
theorem x48_22 : Rn S 48 22 [v0, v1, v2] st I J Q = Rn S 48 24 [v0, v1, v2] (.int (-2) :: st) I J Q := rS f48_22 rfl
theorem x48_24 : Rn S 48 24 [v0, v1, v2] [.int a] I J Q = Q (some (.int a)) I J := rR f48_24 rfl rfl rfl rfl rfl
theorem x48_25 : Rn S 48 25 [v0, v1, .int a] st I J Q = Rn S 48 26 [v0, v1, .int a] (.int a :: st) I J Q := rL f48_25 rfl rfl
theorem x48_26 : Rn S 48 26 [v0, v1, v2] (.int a :: st) I J Q = if a = 0 then Rn S 48 29 [v0, v1, v2] st I J Q else Rn S 48 39 [v0, v1, v2] st I J Q := rIne f48_26 rfl rfl
theorem x48_29 : Rn S 48 29 [.ref q, v1, v2] st I J Q = Rn S 48 30 [.ref q, v1, v2] (.ref q :: st) I J Q := rL f48_29 rfl rfl
theorem x48_30_0 : Rn (zG xl) 48 30 [v0, v1, v2] (.ref 0 :: st) I J Q = Rn (zG xl) 48 33 [v0, v1, v2] (.ref 18 :: st) I J Q := (rGf f48_30 rfl).trans (tr_and rfl)
theorem x48_33_18 : Rn (zG xl) 48 33 [v0, v1, v2] (.ref 18 :: st) I J Q = Rn (zG xl) 48 36 [v0, v1, v2] (.ref 19 :: st) I J Q := (rGf f48_33 rfl).trans (tr_and rfl)
theorem x48_33_38 : Rn (zG xl) 48 33 [v0, v1, v2] (.ref 38 :: st) I J Q = Rn (zG xl) 48 36 [v0, v1, v2] (.ref 39 :: st) I J Q := (rGf f48_33 rfl).trans (tr_and rfl)
theorem x48_36 : Rn S 48 36 [v0, .int a, v2] st I J Q = Rn S 48 37 [v0, .int a, v2] (.int a :: st) I J Q := rL f48_36 rfl rfl
theorem x48_37 : Rn S 48 37 [v0, v1, v2] (.int a :: .ref q :: st) I J Q = (zai S q a ∧ Rn S 48 38 [v0, v1, v2] (.int (I q a.toNatClampNeg) :: st) I J Q) := rIal f48_37
theorem x48_38 : Rn S 48 38 [v0, v1, v2] [.int a] I J Q = Q (some (.int a)) I J := rR f48_38 rfl rfl rfl rfl rfl
theorem x48_39 : Rn S 48 39 [v0, v1, .int a] st I J Q = Rn S 48 40 [v0, v1, .int a] (.int a :: st) I J Q := rL f48_39 rfl rfl
theorem x48_40 : Rn S 48 40 [v0, v1, v2] st I J Q = Rn S 48 41 [v0, v1, v2] (.int 1 :: st) I J Q := rS f48_40 rfl
theorem x48_41 : Rn S 48 41 [v0, v1, v2] (.int b :: .int a :: st) I J Q = if a = b then Rn S 48 44 [v0, v1, v2] st I J Q else Rn S 48 56 [v0, v1, v2] st I J Q := rCne f48_41 rfl rfl
theorem x48_44 : Rn S 48 44 [.ref q, v1, v2] st I J Q = Rn S 48 45 [.ref q, v1, v2] (.ref q :: st) I J Q := rL f48_44 rfl rfl
theorem x48_45_0 : Rn (zG xl) 48 45 [v0, v1, v2] (.ref 0 :: st) I J Q = Rn (zG xl) 48 48 [v0, v1, v2] (.ref 18 :: st) I J Q := (rGf f48_45 rfl).trans (tr_and rfl)
theorem x48_48_18 : Rn (zG xl) 48 48 [v0, v1, v2] (.ref 18 :: st) I J Q = Rn (zG xl) 48 51 [v0, v1, v2] (.ref 20 :: st) I J Q := (rGf f48_48 rfl).trans (tr_and rfl)
theorem x48_48_38 : Rn (zG xl) 48 48 [v0, v1, v2] (.ref 38 :: st) I J Q = Rn (zG xl) 48 51 [v0, v1, v2] (.ref 40 :: st) I J Q := (rGf f48_48 rfl).trans (tr_and rfl)
theorem x48_51 : Rn S 48 51 [v0, .int a, v2] st I J Q = Rn S 48 52 [v0, .int a, v2] (.int a :: st) I J Q := rL f48_51 rfl rfl
theorem x48_52 : Rn S 48 52 [v0, v1, v2] (.int a :: .ref q :: st) I J Q = (zai S q a ∧ Rn S 48 53 [v0, v1, v2] (.int (I q a.toNatClampNeg) :: st) I J Q) := rIal f48_52
theorem x48_53 : Rn S 48 53 [v0, v1, v2] st I J Q = Rn S 48 65 [v0, v1, v2] st I J Q := rB f48_53 rfl rfl rfl
theorem x48_56 : Rn S 48 56 [.ref q, v1, v2] st I J Q = Rn S 48 57 [.ref q, v1, v2] (.ref q :: st) I J Q := rL f48_56 rfl rfl
theorem x48_57_0 : Rn (zG xl) 48 57 [v0, v1, v2] (.ref 0 :: st) I J Q = Rn (zG xl) 48 60 [v0, v1, v2] (.ref 18 :: st) I J Q := (rGf f48_57 rfl).trans (tr_and rfl)
theorem x48_60_18 : Rn (zG xl) 48 60 [v0, v1, v2] (.ref 18 :: st) I J Q = Rn (zG xl) 48 63 [v0, v1, v2] (.ref 21 :: st) I J Q := (rGf f48_60 rfl).trans (tr_and rfl)
theorem x48_60_38 : Rn (zG xl) 48 60 [v0, v1, v2] (.ref 38 :: st) I J Q = Rn (zG xl) 48 63 [v0, v1, v2] (.ref 41 :: st) I J Q := (rGf f48_60 rfl).trans (tr_and rfl)
theorem x48_63 : Rn S 48 63 [v0, .int a, v2] st I J Q = Rn S 48 64 [v0, .int a, v2] (.int a :: st) I J Q := rL f48_63 rfl rfl
theorem x48_64 : Rn S 48 64 [v0, v1, v2] (.int a :: .ref q :: st) I J Q = (zai S q a ∧ Rn S 48 65 [v0, v1, v2] (.int (I q a.toNatClampNeg) :: st) I J Q) := rIal f48_64
theorem x48_65 : Rn S 48 65 [v0, v1, v2] [.int a] I J Q = Q (some (.int a)) I J := rR f48_65 rfl rfl rfl rfl rfl
/-! X5.night: 49 -/
theorem B49 : zB 49 = cX5_night := rfl
theorem f49_0 : zft 49 0 = some (.iload_n 1, 1) := fet B49 (by decide +kernel) (Or.inr rfl)
theorem f49_1 : zft 49 1 = some (.aload_n 0, 1) := fet B49 (by decide +kernel) (Or.inr rfl)
theorem f49_2 : zft 49 2 = some (.getfield 27, 3) := fet B49 (by decide +kernel) (Or.inr rfl)
theorem f49_5 : zft 49 5 = some (.getfield 102, 3) := fet B49 (by decide +kernel) (Or.inr rfl)
theorem f49_8 : zft 49 8 = some (.invokestatic 72, 3) := fet B49 (by decide +kernel) (Or.inr rfl)
theorem f49_11 : zft 49 11 = some (.ifCond .ne 6, 3) := fet B49 (by decide +kernel) (Or.inr rfl)
theorem f49_14 : zft 49 14 = some (.bipush (-2), 2) := fet B49 (by decide +kernel) (Or.inr rfl)
theorem f49_16 : zft 49 16 = some (.ireturn, 1) := fet B49 (by decide +kernel) (Or.inr rfl)
theorem f49_17 : zft 49 17 = some (.iload_n 2, 1) := fet B49 (by decide +kernel) (Or.inr rfl)
theorem f49_18 : zft 49 18 = some (.tableswitch 70 0 3 #[30, 40, 50, 60], 30) := fet B49 (by decide +kernel) (Or.inl rfl)
theorem f49_48 : zft 49 48 = some (.aload_n 0, 1) := fet B49 (by decide +kernel) (Or.inr rfl)
theorem f49_49 : zft 49 49 = some (.getfield 34, 3) := fet B49 (by decide +kernel) (Or.inr rfl)
theorem f49_52 : zft 49 52 = some (.getfield 159, 3) := fet B49 (by decide +kernel) (Or.inr rfl)
theorem f49_55 : zft 49 55 = some (.iload_n 1, 1) := fet B49 (by decide +kernel) (Or.inr rfl)
theorem f49_56 : zft 49 56 = some (.iaload, 1) := fet B49 (by decide +kernel) (Or.inr rfl)
theorem f49_57 : zft 49 57 = some (.ireturn, 1) := fet B49 (by decide +kernel) (Or.inr rfl)
theorem f49_58 : zft 49 58 = some (.aload_n 0, 1) := fet B49 (by decide +kernel) (Or.inr rfl)
theorem f49_59 : zft 49 59 = some (.getfield 34, 3) := fet B49 (by decide +kernel) (Or.inr rfl)
theorem f49_62 : zft 49 62 = some (.getfield 162, 3) := fet B49 (by decide +kernel) (Or.inr rfl)
theorem f49_65 : zft 49 65 = some (.iload_n 1, 1) := fet B49 (by decide +kernel) (Or.inr rfl)
theorem f49_66 : zft 49 66 = some (.iaload, 1) := fet B49 (by decide +kernel) (Or.inr rfl)
theorem f49_67 : zft 49 67 = some (.ireturn, 1) := fet B49 (by decide +kernel) (Or.inr rfl)
theorem f49_68 : zft 49 68 = some (.aload_n 0, 1) := fet B49 (by decide +kernel) (Or.inr rfl)
theorem f49_69 : zft 49 69 = some (.getfield 34, 3) := fet B49 (by decide +kernel) (Or.inr rfl)
theorem f49_72 : zft 49 72 = some (.getfield 165, 3) := fet B49 (by decide +kernel) (Or.inr rfl)
theorem f49_75 : zft 49 75 = some (.iload_n 1, 1) := fet B49 (by decide +kernel) (Or.inr rfl)
theorem f49_76 : zft 49 76 = some (.iaload, 1) := fet B49 (by decide +kernel) (Or.inr rfl)
theorem f49_77 : zft 49 77 = some (.ireturn, 1) := fet B49 (by decide +kernel) (Or.inr rfl)
theorem f49_78 : zft 49 78 = some (.aload_n 0, 1) := fet B49 (by decide +kernel) (Or.inr rfl)
theorem f49_79 : zft 49 79 = some (.getfield 34, 3) := fet B49 (by decide +kernel) (Or.inr rfl)
theorem f49_82 : zft 49 82 = some (.getfield 168, 3) := fet B49 (by decide +kernel) (Or.inr rfl)
theorem f49_85 : zft 49 85 = some (.iload_n 1, 1) := fet B49 (by decide +kernel) (Or.inr rfl)
theorem f49_86 : zft 49 86 = some (.iaload, 1) := fet B49 (by decide +kernel) (Or.inr rfl)
theorem f49_87 : zft 49 87 = some (.ireturn, 1) := fet B49 (by decide +kernel) (Or.inr rfl)
theorem f49_88 : zft 49 88 = some (.bipush (-2), 2) := fet B49 (by decide +kernel) (Or.inr rfl)
theorem f49_90 : zft 49 90 = some (.ireturn, 1) := fet B49 (by decide +kernel) (Or.inr rfl)
theorem x49_0 : Rn S 49 0 [v0, .int a, v2] st I J Q = Rn S 49 1 [v0, .int a, v2] (.int a :: st) I J Q := rL f49_0 rfl rfl
theorem x49_1 : Rn S 49 1 [.ref q, v1, v2] st I J Q = Rn S 49 2 [.ref q, v1, v2] (.ref q :: st) I J Q := rL f49_1 rfl rfl
theorem x49_2_0 : Rn (zG xl) 49 2 [v0, v1, v2] (.ref 0 :: st) I J Q = Rn (zG xl) 49 5 [v0, v1, v2] (.ref 8 :: st) I J Q := (rGf f49_2 rfl).trans (tr_and rfl)
theorem x49_5_8 : Rn (zG xl) 49 5 [v0, v1, v2] (.ref 8 :: st) I J Q = Rn (zG xl) 49 8 [v0, v1, v2] (.int (I 8 3) :: st) I J Q := (rGf f49_5 rfl).trans (tr_and rfl)
theorem x49_5_28 : Rn (zG xl) 49 5 [v0, v1, v2] (.ref 28 :: st) I J Q = Rn (zG xl) 49 8 [v0, v1, v2] (.int (I 28 3) :: st) I J Q := (rGf f49_5 rfl).trans (tr_and rfl)
theorem x49_8 : Rn S 49 8 [v0, v1, v2] (.int a1 :: .int a0 :: st) I J Q = (zcs st ≤ 8 ∧ Rn S 81 0 [.int a0, .int a1] [] I J (fun v I' J' => Rn S 49 11 [v0, v1, v2] (v.toList ++ st) I' J' Q)) := rCS (As := [.int a0, .int a1]) f49_8 rfl rfl rfl rfl (Nat.le_of_ble_eq_true rfl)
theorem x49_11 : Rn S 49 11 [v0, v1, v2] (.int a :: st) I J Q = if a = 0 then Rn S 49 14 [v0, v1, v2] st I J Q else Rn S 49 17 [v0, v1, v2] st I J Q := rIne f49_11 rfl rfl
theorem x49_14 : Rn S 49 14 [v0, v1, v2] st I J Q = Rn S 49 16 [v0, v1, v2] (.int (-2) :: st) I J Q := rS f49_14 rfl
theorem x49_16 : Rn S 49 16 [v0, v1, v2] [.int a] I J Q = Q (some (.int a)) I J := rR f49_16 rfl rfl rfl rfl rfl
theorem x49_17 : Rn S 49 17 [v0, v1, .int a] st I J Q = Rn S 49 18 [v0, v1, .int a] (.int a :: st) I J Q := rL f49_17 rfl rfl
theorem x49_18 : Rn S 49 18 [v0, v1, v2] (.int a :: st) I J Q = Rn S 49 (ztb 88 a [48, 58, 68, 78] 0) [v0, v1, v2] st I J Q := rTb f49_18 rfl (by decide +kernel) (by decide +kernel)
theorem x49_48 : Rn S 49 48 [.ref q, v1, v2] st I J Q = Rn S 49 49 [.ref q, v1, v2] (.ref q :: st) I J Q := rL f49_48 rfl rfl
theorem x49_49_0 : Rn (zG xl) 49 49 [v0, v1, v2] (.ref 0 :: st) I J Q = Rn (zG xl) 49 52 [v0, v1, v2] (.ref 18 :: st) I J Q := (rGf f49_49 rfl).trans (tr_and rfl)
theorem x49_52_18 : Rn (zG xl) 49 52 [v0, v1, v2] (.ref 18 :: st) I J Q = Rn (zG xl) 49 55 [v0, v1, v2] (.ref 22 :: st) I J Q := (rGf f49_52 rfl).trans (tr_and rfl)
theorem x49_52_38 : Rn (zG xl) 49 52 [v0, v1, v2] (.ref 38 :: st) I J Q = Rn (zG xl) 49 55 [v0, v1, v2] (.ref 42 :: st) I J Q := (rGf f49_52 rfl).trans (tr_and rfl)
theorem x49_55 : Rn S 49 55 [v0, .int a, v2] st I J Q = Rn S 49 56 [v0, .int a, v2] (.int a :: st) I J Q := rL f49_55 rfl rfl
theorem x49_56 : Rn S 49 56 [v0, v1, v2] (.int a :: .ref q :: st) I J Q = (zai S q a ∧ Rn S 49 57 [v0, v1, v2] (.int (I q a.toNatClampNeg) :: st) I J Q) := rIal f49_56
theorem x49_57 : Rn S 49 57 [v0, v1, v2] [.int a] I J Q = Q (some (.int a)) I J := rR f49_57 rfl rfl rfl rfl rfl
theorem x49_58 : Rn S 49 58 [.ref q, v1, v2] st I J Q = Rn S 49 59 [.ref q, v1, v2] (.ref q :: st) I J Q := rL f49_58 rfl rfl
theorem x49_59_0 : Rn (zG xl) 49 59 [v0, v1, v2] (.ref 0 :: st) I J Q = Rn (zG xl) 49 62 [v0, v1, v2] (.ref 18 :: st) I J Q := (rGf f49_59 rfl).trans (tr_and rfl)
theorem x49_62_18 : Rn (zG xl) 49 62 [v0, v1, v2] (.ref 18 :: st) I J Q = Rn (zG xl) 49 65 [v0, v1, v2] (.ref 23 :: st) I J Q := (rGf f49_62 rfl).trans (tr_and rfl)
theorem x49_62_38 : Rn (zG xl) 49 62 [v0, v1, v2] (.ref 38 :: st) I J Q = Rn (zG xl) 49 65 [v0, v1, v2] (.ref 43 :: st) I J Q := (rGf f49_62 rfl).trans (tr_and rfl)
theorem x49_65 : Rn S 49 65 [v0, .int a, v2] st I J Q = Rn S 49 66 [v0, .int a, v2] (.int a :: st) I J Q := rL f49_65 rfl rfl
theorem x49_66 : Rn S 49 66 [v0, v1, v2] (.int a :: .ref q :: st) I J Q = (zai S q a ∧ Rn S 49 67 [v0, v1, v2] (.int (I q a.toNatClampNeg) :: st) I J Q) := rIal f49_66
theorem x49_67 : Rn S 49 67 [v0, v1, v2] [.int a] I J Q = Q (some (.int a)) I J := rR f49_67 rfl rfl rfl rfl rfl
theorem x49_68 : Rn S 49 68 [.ref q, v1, v2] st I J Q = Rn S 49 69 [.ref q, v1, v2] (.ref q :: st) I J Q := rL f49_68 rfl rfl
theorem x49_69_0 : Rn (zG xl) 49 69 [v0, v1, v2] (.ref 0 :: st) I J Q = Rn (zG xl) 49 72 [v0, v1, v2] (.ref 18 :: st) I J Q := (rGf f49_69 rfl).trans (tr_and rfl)
theorem x49_72_18 : Rn (zG xl) 49 72 [v0, v1, v2] (.ref 18 :: st) I J Q = Rn (zG xl) 49 75 [v0, v1, v2] (.ref 24 :: st) I J Q := (rGf f49_72 rfl).trans (tr_and rfl)
theorem x49_72_38 : Rn (zG xl) 49 72 [v0, v1, v2] (.ref 38 :: st) I J Q = Rn (zG xl) 49 75 [v0, v1, v2] (.ref 44 :: st) I J Q := (rGf f49_72 rfl).trans (tr_and rfl)
theorem x49_75 : Rn S 49 75 [v0, .int a, v2] st I J Q = Rn S 49 76 [v0, .int a, v2] (.int a :: st) I J Q := rL f49_75 rfl rfl
theorem x49_76 : Rn S 49 76 [v0, v1, v2] (.int a :: .ref q :: st) I J Q = (zai S q a ∧ Rn S 49 77 [v0, v1, v2] (.int (I q a.toNatClampNeg) :: st) I J Q) := rIal f49_76
theorem x49_77 : Rn S 49 77 [v0, v1, v2] [.int a] I J Q = Q (some (.int a)) I J := rR f49_77 rfl rfl rfl rfl rfl
theorem x49_78 : Rn S 49 78 [.ref q, v1, v2] st I J Q = Rn S 49 79 [.ref q, v1, v2] (.ref q :: st) I J Q := rL f49_78 rfl rfl
theorem x49_79_0 : Rn (zG xl) 49 79 [v0, v1, v2] (.ref 0 :: st) I J Q = Rn (zG xl) 49 82 [v0, v1, v2] (.ref 18 :: st) I J Q := (rGf f49_79 rfl).trans (tr_and rfl)
theorem x49_82_18 : Rn (zG xl) 49 82 [v0, v1, v2] (.ref 18 :: st) I J Q = Rn (zG xl) 49 85 [v0, v1, v2] (.ref 25 :: st) I J Q := (rGf f49_82 rfl).trans (tr_and rfl)
theorem x49_82_38 : Rn (zG xl) 49 82 [v0, v1, v2] (.ref 38 :: st) I J Q = Rn (zG xl) 49 85 [v0, v1, v2] (.ref 45 :: st) I J Q := (rGf f49_82 rfl).trans (tr_and rfl)
theorem x49_85 : Rn S 49 85 [v0, .int a, v2] st I J Q = Rn S 49 86 [v0, .int a, v2] (.int a :: st) I J Q := rL f49_85 rfl rfl
theorem x49_86 : Rn S 49 86 [v0, v1, v2] (.int a :: .ref q :: st) I J Q = (zai S q a ∧ Rn S 49 87 [v0, v1, v2] (.int (I q a.toNatClampNeg) :: st) I J Q) := rIal f49_86
theorem x49_87 : Rn S 49 87 [v0, v1, v2] [.int a] I J Q = Q (some (.int a)) I J := rR f49_87 rfl rfl rfl rfl rfl
theorem x49_88 : Rn S 49 88 [v0, v1, v2] st I J Q = Rn S 49 90 [v0, v1, v2] (.int (-2) :: st) I J Q := rS f49_88 rfl
theorem x49_90 : Rn S 49 90 [v0, v1, v2] [.int a] I J Q = Q (some (.int a)) I J := rR f49_90 rfl rfl rfl rfl rfl
/-! X5.done: 50 -/
theorem B50 : zB 50 = cX5_done := rfl
theorem f50_0 : zft 50 0 = some (.iload_n 1, 1) := fet B50 (by decide +kernel) (Or.inr rfl)
theorem f50_1 : zft 50 1 = some (.aload_n 0, 1) := fet B50 (by decide +kernel) (Or.inr rfl)
theorem f50_2 : zft 50 2 = some (.getfield 27, 3) := fet B50 (by decide +kernel) (Or.inr rfl)
theorem f50_5 : zft 50 5 = some (.getfield 111, 3) := fet B50 (by decide +kernel) (Or.inr rfl)
theorem f50_8 : zft 50 8 = some (.invokestatic 72, 3) := fet B50 (by decide +kernel) (Or.inr rfl)
theorem f50_11 : zft 50 11 = some (.ifCond .eq 11, 3) := fet B50 (by decide +kernel) (Or.inr rfl)
theorem f50_14 : zft 50 14 = some (.iload_n 2, 1) := fet B50 (by decide +kernel) (Or.inr rfl)
theorem f50_15 : zft 50 15 = some (.iconst 2, 1) := fet B50 (by decide +kernel) (Or.inr rfl)
theorem f50_16 : zft 50 16 = some (.invokestatic 72, 3) := fet B50 (by decide +kernel) (Or.inr rfl)
theorem f50_19 : zft 50 19 = some (.ifCond .ne 6, 3) := fet B50 (by decide +kernel) (Or.inr rfl)
theorem f50_22 : zft 50 22 = some (.bipush (-2), 2) := fet B50 (by decide +kernel) (Or.inr rfl)
theorem f50_24 : zft 50 24 = some (.ireturn, 1) := fet B50 (by decide +kernel) (Or.inr rfl)
theorem f50_25 : zft 50 25 = some (.iload_n 2, 1) := fet B50 (by decide +kernel) (Or.inr rfl)
theorem f50_26 : zft 50 26 = some (.ifCond .ne 15, 3) := fet B50 (by decide +kernel) (Or.inr rfl)
theorem f50_29 : zft 50 29 = some (.aload_n 0, 1) := fet B50 (by decide +kernel) (Or.inr rfl)
theorem f50_30 : zft 50 30 = some (.getfield 34, 3) := fet B50 (by decide +kernel) (Or.inr rfl)
theorem f50_33 : zft 50 33 = some (.getfield 171, 3) := fet B50 (by decide +kernel) (Or.inr rfl)
theorem f50_36 : zft 50 36 = some (.iload_n 1, 1) := fet B50 (by decide +kernel) (Or.inr rfl)
theorem f50_37 : zft 50 37 = some (.iaload, 1) := fet B50 (by decide +kernel) (Or.inr rfl)
theorem f50_38 : zft 50 38 = some (.goto 12, 3) := fet B50 (by decide +kernel) (Or.inr rfl)
theorem f50_41 : zft 50 41 = some (.aload_n 0, 1) := fet B50 (by decide +kernel) (Or.inr rfl)
theorem f50_42 : zft 50 42 = some (.getfield 34, 3) := fet B50 (by decide +kernel) (Or.inr rfl)
theorem f50_45 : zft 50 45 = some (.getfield 174, 3) := fet B50 (by decide +kernel) (Or.inr rfl)
theorem f50_48 : zft 50 48 = some (.iload_n 1, 1) := fet B50 (by decide +kernel) (Or.inr rfl)
theorem f50_49 : zft 50 49 = some (.iaload, 1) := fet B50 (by decide +kernel) (Or.inr rfl)
theorem f50_50 : zft 50 50 = some (.ireturn, 1) := fet B50 (by decide +kernel) (Or.inr rfl)
theorem x50_0 : Rn S 50 0 [v0, .int a, v2] st I J Q = Rn S 50 1 [v0, .int a, v2] (.int a :: st) I J Q := rL f50_0 rfl rfl
theorem x50_1 : Rn S 50 1 [.ref q, v1, v2] st I J Q = Rn S 50 2 [.ref q, v1, v2] (.ref q :: st) I J Q := rL f50_1 rfl rfl
theorem x50_2_0 : Rn (zG xl) 50 2 [v0, v1, v2] (.ref 0 :: st) I J Q = Rn (zG xl) 50 5 [v0, v1, v2] (.ref 8 :: st) I J Q := (rGf f50_2 rfl).trans (tr_and rfl)
theorem x50_5_8 : Rn (zG xl) 50 5 [v0, v1, v2] (.ref 8 :: st) I J Q = Rn (zG xl) 50 8 [v0, v1, v2] (.int (I 8 6) :: st) I J Q := (rGf f50_5 rfl).trans (tr_and rfl)
theorem x50_5_28 : Rn (zG xl) 50 5 [v0, v1, v2] (.ref 28 :: st) I J Q = Rn (zG xl) 50 8 [v0, v1, v2] (.int (I 28 6) :: st) I J Q := (rGf f50_5 rfl).trans (tr_and rfl)
theorem x50_8 : Rn S 50 8 [v0, v1, v2] (.int a1 :: .int a0 :: st) I J Q = (zcs st ≤ 8 ∧ Rn S 81 0 [.int a0, .int a1] [] I J (fun v I' J' => Rn S 50 11 [v0, v1, v2] (v.toList ++ st) I' J' Q)) := rCS (As := [.int a0, .int a1]) f50_8 rfl rfl rfl rfl (Nat.le_of_ble_eq_true rfl)
theorem x50_11 : Rn S 50 11 [v0, v1, v2] (.int a :: st) I J Q = if a = 0 then Rn S 50 22 [v0, v1, v2] st I J Q else Rn S 50 14 [v0, v1, v2] st I J Q := rIeq f50_11 rfl rfl
theorem x50_14 : Rn S 50 14 [v0, v1, .int a] st I J Q = Rn S 50 15 [v0, v1, .int a] (.int a :: st) I J Q := rL f50_14 rfl rfl
theorem x50_15 : Rn S 50 15 [v0, v1, v2] st I J Q = Rn S 50 16 [v0, v1, v2] (.int 2 :: st) I J Q := rS f50_15 rfl
theorem x50_16 : Rn S 50 16 [v0, v1, v2] (.int a1 :: .int a0 :: st) I J Q = (zcs st ≤ 8 ∧ Rn S 81 0 [.int a0, .int a1] [] I J (fun v I' J' => Rn S 50 19 [v0, v1, v2] (v.toList ++ st) I' J' Q)) := rCS (As := [.int a0, .int a1]) f50_16 rfl rfl rfl rfl (Nat.le_of_ble_eq_true rfl)
theorem x50_19 : Rn S 50 19 [v0, v1, v2] (.int a :: st) I J Q = if a = 0 then Rn S 50 22 [v0, v1, v2] st I J Q else Rn S 50 25 [v0, v1, v2] st I J Q := rIne f50_19 rfl rfl
theorem x50_22 : Rn S 50 22 [v0, v1, v2] st I J Q = Rn S 50 24 [v0, v1, v2] (.int (-2) :: st) I J Q := rS f50_22 rfl
theorem x50_24 : Rn S 50 24 [v0, v1, v2] [.int a] I J Q = Q (some (.int a)) I J := rR f50_24 rfl rfl rfl rfl rfl
theorem x50_25 : Rn S 50 25 [v0, v1, .int a] st I J Q = Rn S 50 26 [v0, v1, .int a] (.int a :: st) I J Q := rL f50_25 rfl rfl
theorem x50_26 : Rn S 50 26 [v0, v1, v2] (.int a :: st) I J Q = if a = 0 then Rn S 50 29 [v0, v1, v2] st I J Q else Rn S 50 41 [v0, v1, v2] st I J Q := rIne f50_26 rfl rfl
theorem x50_29 : Rn S 50 29 [.ref q, v1, v2] st I J Q = Rn S 50 30 [.ref q, v1, v2] (.ref q :: st) I J Q := rL f50_29 rfl rfl
theorem x50_30_0 : Rn (zG xl) 50 30 [v0, v1, v2] (.ref 0 :: st) I J Q = Rn (zG xl) 50 33 [v0, v1, v2] (.ref 18 :: st) I J Q := (rGf f50_30 rfl).trans (tr_and rfl)
theorem x50_33_18 : Rn (zG xl) 50 33 [v0, v1, v2] (.ref 18 :: st) I J Q = Rn (zG xl) 50 36 [v0, v1, v2] (.ref 26 :: st) I J Q := (rGf f50_33 rfl).trans (tr_and rfl)
theorem x50_33_38 : Rn (zG xl) 50 33 [v0, v1, v2] (.ref 38 :: st) I J Q = Rn (zG xl) 50 36 [v0, v1, v2] (.ref 46 :: st) I J Q := (rGf f50_33 rfl).trans (tr_and rfl)
theorem x50_36 : Rn S 50 36 [v0, .int a, v2] st I J Q = Rn S 50 37 [v0, .int a, v2] (.int a :: st) I J Q := rL f50_36 rfl rfl
theorem x50_37 : Rn S 50 37 [v0, v1, v2] (.int a :: .ref q :: st) I J Q = (zai S q a ∧ Rn S 50 38 [v0, v1, v2] (.int (I q a.toNatClampNeg) :: st) I J Q) := rIal f50_37
theorem x50_38 : Rn S 50 38 [v0, v1, v2] st I J Q = Rn S 50 50 [v0, v1, v2] st I J Q := rB f50_38 rfl rfl rfl
theorem x50_41 : Rn S 50 41 [.ref q, v1, v2] st I J Q = Rn S 50 42 [.ref q, v1, v2] (.ref q :: st) I J Q := rL f50_41 rfl rfl
theorem x50_42_0 : Rn (zG xl) 50 42 [v0, v1, v2] (.ref 0 :: st) I J Q = Rn (zG xl) 50 45 [v0, v1, v2] (.ref 18 :: st) I J Q := (rGf f50_42 rfl).trans (tr_and rfl)
theorem x50_45_18 : Rn (zG xl) 50 45 [v0, v1, v2] (.ref 18 :: st) I J Q = Rn (zG xl) 50 48 [v0, v1, v2] (.ref 27 :: st) I J Q := (rGf f50_45 rfl).trans (tr_and rfl)
theorem x50_45_38 : Rn (zG xl) 50 45 [v0, v1, v2] (.ref 38 :: st) I J Q = Rn (zG xl) 50 48 [v0, v1, v2] (.ref 47 :: st) I J Q := (rGf f50_45 rfl).trans (tr_and rfl)
theorem x50_48 : Rn S 50 48 [v0, .int a, v2] st I J Q = Rn S 50 49 [v0, .int a, v2] (.int a :: st) I J Q := rL f50_48 rfl rfl
theorem x50_49 : Rn S 50 49 [v0, v1, v2] (.int a :: .ref q :: st) I J Q = (zai S q a ∧ Rn S 50 50 [v0, v1, v2] (.int (I q a.toNatClampNeg) :: st) I J Q) := rIal f50_49
theorem x50_50 : Rn S 50 50 [v0, v1, v2] [.int a] I J Q = Q (some (.int a)) I J := rR f50_50 rfl rfl rfl rfl rfl
/-! X5.marked: 51 -/
theorem B51 : zB 51 = cX5_marked := rfl
theorem f51_0 : zft 51 0 = some (.iload_n 1, 1) := fet B51 (by decide +kernel) (Or.inr rfl)
theorem f51_1 : zft 51 1 = some (.bipush 24, 2) := fet B51 (by decide +kernel) (Or.inr rfl)
theorem f51_3 : zft 51 3 = some (.invokestatic 72, 3) := fet B51 (by decide +kernel) (Or.inr rfl)
theorem f51_6 : zft 51 6 = some (.ifCond .eq 17, 3) := fet B51 (by decide +kernel) (Or.inr rfl)
theorem f51_9 : zft 51 9 = some (.aload_n 0, 1) := fet B51 (by decide +kernel) (Or.inr rfl)
theorem f51_10 : zft 51 10 = some (.getfield 34, 3) := fet B51 (by decide +kernel) (Or.inr rfl)
theorem f51_13 : zft 51 13 = some (.iload_n 1, 1) := fet B51 (by decide +kernel) (Or.inr rfl)
theorem f51_14 : zft 51 14 = some (.invokevirtual 176, 3) := fet B51 (by decide +kernel) (Or.inr rfl)
theorem f51_17 : zft 51 17 = some (.invokestatic 179, 3) := fet B51 (by decide +kernel) (Or.inr rfl)
theorem f51_20 : zft 51 20 = some (.goto 5, 3) := fet B51 (by decide +kernel) (Or.inr rfl)
theorem f51_23 : zft 51 23 = some (.bipush (-2), 2) := fet B51 (by decide +kernel) (Or.inr rfl)
theorem f51_25 : zft 51 25 = some (.ireturn, 1) := fet B51 (by decide +kernel) (Or.inr rfl)
theorem x51_0 : Rn S 51 0 [v0, .int a] st I J Q = Rn S 51 1 [v0, .int a] (.int a :: st) I J Q := rL f51_0 rfl rfl
theorem x51_1 : Rn S 51 1 [v0, v1] st I J Q = Rn S 51 3 [v0, v1] (.int 24 :: st) I J Q := rS f51_1 rfl
theorem x51_3 : Rn S 51 3 [v0, v1] (.int a1 :: .int a0 :: st) I J Q = (zcs st ≤ 8 ∧ Rn S 81 0 [.int a0, .int a1] [] I J (fun v I' J' => Rn S 51 6 [v0, v1] (v.toList ++ st) I' J' Q)) := rCS (As := [.int a0, .int a1]) f51_3 rfl rfl rfl rfl (Nat.le_of_ble_eq_true rfl)
theorem x51_6 : Rn S 51 6 [v0, v1] (.int a :: st) I J Q = if a = 0 then Rn S 51 23 [v0, v1] st I J Q else Rn S 51 9 [v0, v1] st I J Q := rIeq f51_6 rfl rfl
theorem x51_9 : Rn S 51 9 [.ref q, v1] st I J Q = Rn S 51 10 [.ref q, v1] (.ref q :: st) I J Q := rL f51_9 rfl rfl
theorem x51_10_0 : Rn (zG xl) 51 10 [v0, v1] (.ref 0 :: st) I J Q = Rn (zG xl) 51 13 [v0, v1] (.ref 18 :: st) I J Q := (rGf f51_10 rfl).trans (tr_and rfl)
theorem x51_13 : Rn S 51 13 [v0, .int a] st I J Q = Rn S 51 14 [v0, .int a] (.int a :: st) I J Q := rL f51_13 rfl rfl
theorem x51_14 : Rn S 51 14 [v0, v1] (.int a0 :: .ref q :: st) I J Q = ((zcls S q = 0 ∧ zcs st ≤ 8) ∧ Rn S 7 0 [.ref q, .int a0, .null, .null] [] I J (fun v I' J' => Rn S 51 17 [v0, v1] (v.toList ++ st) I' J' Q)) := rCV (As := [.int a0]) f51_14 rfl rfl rfl rfl (Nat.le_of_ble_eq_true rfl)
theorem x51_17 : Rn S 51 17 [v0, v1] (.int a0 :: st) I J Q = (zcs st ≤ 8 ∧ Rn S 188 0 [.int a0] [] I J (fun v I' J' => Rn S 51 20 [v0, v1] (v.toList ++ st) I' J' Q)) := rCS (As := [.int a0]) f51_17 rfl rfl rfl rfl (Nat.le_of_ble_eq_true rfl)
theorem x51_20 : Rn S 51 20 [v0, v1] st I J Q = Rn S 51 25 [v0, v1] st I J Q := rB f51_20 rfl rfl rfl
theorem x51_23 : Rn S 51 23 [v0, v1] st I J Q = Rn S 51 25 [v0, v1] (.int (-2) :: st) I J Q := rS f51_23 rfl
theorem x51_25 : Rn S 51 25 [v0, v1] [.int a] I J Q = Q (some (.int a)) I J := rR f51_25 rfl rfl rfl rfl rfl
/-! X5.harm: 52 -/
theorem B52 : zB 52 = cX5_harm := rfl
theorem f52_0 : zft 52 0 = some (.aload_n 0, 1) := fet B52 (by decide +kernel) (Or.inr rfl)
theorem f52_1 : zft 52 1 = some (.getfield 34, 3) := fet B52 (by decide +kernel) (Or.inr rfl)
theorem f52_4 : zft 52 4 = some (.aload_n 0, 1) := fet B52 (by decide +kernel) (Or.inr rfl)
theorem f52_5 : zft 52 5 = some (.getfield 27, 3) := fet B52 (by decide +kernel) (Or.inr rfl)
theorem f52_8 : zft 52 8 = some (.invokevirtual 184, 3) := fet B52 (by decide +kernel) (Or.inr rfl)
theorem f52_11 : zft 52 11 = some (.ireturn, 1) := fet B52 (by decide +kernel) (Or.inr rfl)
theorem x52_0 : Rn S 52 0 [.ref q] st I J Q = Rn S 52 1 [.ref q] (.ref q :: st) I J Q := rL f52_0 rfl rfl
theorem x52_1_0 : Rn (zG xl) 52 1 [v0] (.ref 0 :: st) I J Q = Rn (zG xl) 52 4 [v0] (.ref 18 :: st) I J Q := (rGf f52_1 rfl).trans (tr_and rfl)
theorem x52_4 : Rn S 52 4 [.ref q] st I J Q = Rn S 52 5 [.ref q] (.ref q :: st) I J Q := rL f52_4 rfl rfl
theorem x52_5_0 : Rn (zG xl) 52 5 [v0] (.ref 0 :: st) I J Q = Rn (zG xl) 52 8 [v0] (.ref 8 :: st) I J Q := (rGf f52_5 rfl).trans (tr_and rfl)
theorem x52_8 : Rn S 52 8 [v0] (.ref q0 :: .ref q :: st) I J Q = ((zcls S q = 0 ∧ zcs st ≤ 8) ∧ Rn S 8 0 [.ref q, .ref q0, .null, .null] [] I J (fun v I' J' => Rn S 52 11 [v0] (v.toList ++ st) I' J' Q)) := rCV (As := [.ref q0]) f52_8 rfl rfl rfl rfl (Nat.le_of_ble_eq_true rfl)
theorem x52_11 : Rn S 52 11 [v0] [.int a] I J Q = Q (some (.int a)) I J := rR f52_11 rfl rfl rfl rfl rfl
/-! X5.worst: 53 -/
theorem B53 : zB 53 = cX5_worst := rfl
theorem f53_0 : zft 53 0 = some (.iconst (-1), 1) := fet B53 (by decide +kernel) (Or.inr rfl)
theorem f53_1 : zft 53 1 = some (.istore_n 1, 1) := fet B53 (by decide +kernel) (Or.inr rfl)
theorem f53_2 : zft 53 2 = some (.iconst 0, 1) := fet B53 (by decide +kernel) (Or.inr rfl)
theorem f53_3 : zft 53 3 = some (.istore_n 2, 1) := fet B53 (by decide +kernel) (Or.inr rfl)
theorem f53_4 : zft 53 4 = some (.iload_n 2, 1) := fet B53 (by decide +kernel) (Or.inr rfl)
theorem f53_5 : zft 53 5 = some (.aload_n 0, 1) := fet B53 (by decide +kernel) (Or.inr rfl)
theorem f53_6 : zft 53 6 = some (.getfield 27, 3) := fet B53 (by decide +kernel) (Or.inr rfl)
theorem f53_9 : zft 53 9 = some (.getfield 90, 3) := fet B53 (by decide +kernel) (Or.inr rfl)
theorem f53_12 : zft 53 12 = some (.if_icmp .ge 50, 3) := fet B53 (by decide +kernel) (Or.inr rfl)
theorem f53_15 : zft 53 15 = some (.aload_n 0, 1) := fet B53 (by decide +kernel) (Or.inr rfl)
theorem f53_16 : zft 53 16 = some (.getfield 34, 3) := fet B53 (by decide +kernel) (Or.inr rfl)
theorem f53_19 : zft 53 19 = some (.getfield 150, 3) := fet B53 (by decide +kernel) (Or.inr rfl)
theorem f53_22 : zft 53 22 = some (.iload_n 2, 1) := fet B53 (by decide +kernel) (Or.inr rfl)
theorem f53_23 : zft 53 23 = some (.iaload, 1) := fet B53 (by decide +kernel) (Or.inr rfl)
theorem f53_24 : zft 53 24 = some (.iconst (-1), 1) := fet B53 (by decide +kernel) (Or.inr rfl)
theorem f53_25 : zft 53 25 = some (.if_icmp .ne 31, 3) := fet B53 (by decide +kernel) (Or.inr rfl)
theorem f53_28 : zft 53 28 = some (.iload_n 1, 1) := fet B53 (by decide +kernel) (Or.inr rfl)
theorem f53_29 : zft 53 29 = some (.iconst (-1), 1) := fet B53 (by decide +kernel) (Or.inr rfl)
theorem f53_30 : zft 53 30 = some (.if_icmp .eq 24, 3) := fet B53 (by decide +kernel) (Or.inr rfl)
theorem f53_33 : zft 53 33 = some (.aload_n 0, 1) := fet B53 (by decide +kernel) (Or.inr rfl)
theorem f53_34 : zft 53 34 = some (.getfield 27, 3) := fet B53 (by decide +kernel) (Or.inr rfl)
theorem f53_37 : zft 53 37 = some (.getfield 96, 3) := fet B53 (by decide +kernel) (Or.inr rfl)
theorem f53_40 : zft 53 40 = some (.iload_n 2, 1) := fet B53 (by decide +kernel) (Or.inr rfl)
theorem f53_41 : zft 53 41 = some (.iaload, 1) := fet B53 (by decide +kernel) (Or.inr rfl)
theorem f53_42 : zft 53 42 = some (.aload_n 0, 1) := fet B53 (by decide +kernel) (Or.inr rfl)
theorem f53_43 : zft 53 43 = some (.getfield 27, 3) := fet B53 (by decide +kernel) (Or.inr rfl)
theorem f53_46 : zft 53 46 = some (.getfield 96, 3) := fet B53 (by decide +kernel) (Or.inr rfl)
theorem f53_49 : zft 53 49 = some (.iload_n 1, 1) := fet B53 (by decide +kernel) (Or.inr rfl)
theorem f53_50 : zft 53 50 = some (.iaload, 1) := fet B53 (by decide +kernel) (Or.inr rfl)
theorem f53_51 : zft 53 51 = some (.if_icmp .le 5, 3) := fet B53 (by decide +kernel) (Or.inr rfl)
theorem f53_54 : zft 53 54 = some (.iload_n 2, 1) := fet B53 (by decide +kernel) (Or.inr rfl)
theorem f53_55 : zft 53 55 = some (.istore_n 1, 1) := fet B53 (by decide +kernel) (Or.inr rfl)
theorem f53_56 : zft 53 56 = some (.iinc 2 1, 3) := fet B53 (by decide +kernel) (Or.inr rfl)
theorem f53_59 : zft 53 59 = some (.goto (-55), 3) := fet B53 (by decide +kernel) (Or.inr rfl)
theorem f53_62 : zft 53 62 = some (.iload_n 1, 1) := fet B53 (by decide +kernel) (Or.inr rfl)
theorem f53_63 : zft 53 63 = some (.ireturn, 1) := fet B53 (by decide +kernel) (Or.inr rfl)
theorem x53_0 : Rn S 53 0 [v0, v1, v2] st I J Q = Rn S 53 1 [v0, v1, v2] (.int (-1) :: st) I J Q := rS f53_0 rfl
theorem x53_1 : Rn S 53 1 [v0, v1, v2] (.int a :: st) I J Q = Rn S 53 2 [zkl v0, .int a, v2] st I J Q := rL f53_1 rfl rfl
theorem x53_2 : Rn S 53 2 [v0, v1, v2] st I J Q = Rn S 53 3 [v0, v1, v2] (.int 0 :: st) I J Q := rS f53_2 rfl
theorem x53_3 : Rn S 53 3 [v0, v1, v2] (.int a :: st) I J Q = Rn S 53 4 [v0, zkl v1, .int a] st I J Q := rL f53_3 rfl rfl
theorem h53_4 : Rn S 53 4 [v0, v1, .int a] st I J Q = Rn S 53 5 [v0, v1, .int a] (.int a :: st) I J Q := rL f53_4 rfl rfl
theorem x53_5 : Rn S 53 5 [.ref q, v1, v2] st I J Q = Rn S 53 6 [.ref q, v1, v2] (.ref q :: st) I J Q := rL f53_5 rfl rfl
theorem x53_6_0 : Rn (zG xl) 53 6 [v0, v1, v2] (.ref 0 :: st) I J Q = Rn (zG xl) 53 9 [v0, v1, v2] (.ref 8 :: st) I J Q := (rGf f53_6 rfl).trans (tr_and rfl)
theorem x53_9_8 : Rn (zG xl) 53 9 [v0, v1, v2] (.ref 8 :: st) I J Q = Rn (zG xl) 53 12 [v0, v1, v2] (.int (I 8 0) :: st) I J Q := (rGf f53_9 rfl).trans (tr_and rfl)
theorem x53_9_28 : Rn (zG xl) 53 9 [v0, v1, v2] (.ref 28 :: st) I J Q = Rn (zG xl) 53 12 [v0, v1, v2] (.int (I 28 0) :: st) I J Q := (rGf f53_9 rfl).trans (tr_and rfl)
theorem x53_12 : Rn S 53 12 [v0, v1, v2] (.int b :: .int a :: st) I J Q = if a < b then Rn S 53 15 [v0, v1, v2] st I J Q else Rn S 53 62 [v0, v1, v2] st I J Q := rCge f53_12 rfl rfl
theorem x53_15 : Rn S 53 15 [.ref q, v1, v2] st I J Q = Rn S 53 16 [.ref q, v1, v2] (.ref q :: st) I J Q := rL f53_15 rfl rfl
theorem x53_16_0 : Rn (zG xl) 53 16 [v0, v1, v2] (.ref 0 :: st) I J Q = Rn (zG xl) 53 19 [v0, v1, v2] (.ref 18 :: st) I J Q := (rGf f53_16 rfl).trans (tr_and rfl)
theorem x53_19_18 : Rn (zG xl) 53 19 [v0, v1, v2] (.ref 18 :: st) I J Q = Rn (zG xl) 53 22 [v0, v1, v2] (.ref 19 :: st) I J Q := (rGf f53_19 rfl).trans (tr_and rfl)
theorem x53_19_38 : Rn (zG xl) 53 19 [v0, v1, v2] (.ref 38 :: st) I J Q = Rn (zG xl) 53 22 [v0, v1, v2] (.ref 39 :: st) I J Q := (rGf f53_19 rfl).trans (tr_and rfl)
theorem x53_22 : Rn S 53 22 [v0, v1, .int a] st I J Q = Rn S 53 23 [v0, v1, .int a] (.int a :: st) I J Q := rL f53_22 rfl rfl
theorem x53_23 : Rn S 53 23 [v0, v1, v2] (.int a :: .ref q :: st) I J Q = (zai S q a ∧ Rn S 53 24 [v0, v1, v2] (.int (I q a.toNatClampNeg) :: st) I J Q) := rIal f53_23
theorem x53_24 : Rn S 53 24 [v0, v1, v2] st I J Q = Rn S 53 25 [v0, v1, v2] (.int (-1) :: st) I J Q := rS f53_24 rfl
theorem x53_25 : Rn S 53 25 [v0, v1, v2] (.int b :: .int a :: st) I J Q = if a = b then Rn S 53 28 [v0, v1, v2] st I J Q else Rn S 53 56 [v0, v1, v2] st I J Q := rCne f53_25 rfl rfl
theorem x53_28 : Rn S 53 28 [v0, .int a, v2] st I J Q = Rn S 53 29 [v0, .int a, v2] (.int a :: st) I J Q := rL f53_28 rfl rfl
theorem x53_29 : Rn S 53 29 [v0, v1, v2] st I J Q = Rn S 53 30 [v0, v1, v2] (.int (-1) :: st) I J Q := rS f53_29 rfl
theorem x53_30 : Rn S 53 30 [v0, v1, v2] (.int b :: .int a :: st) I J Q = if a = b then Rn S 53 54 [v0, v1, v2] st I J Q else Rn S 53 33 [v0, v1, v2] st I J Q := rCeq f53_30 rfl rfl
theorem x53_33 : Rn S 53 33 [.ref q, v1, v2] st I J Q = Rn S 53 34 [.ref q, v1, v2] (.ref q :: st) I J Q := rL f53_33 rfl rfl
theorem x53_34_0 : Rn (zG xl) 53 34 [v0, v1, v2] (.ref 0 :: st) I J Q = Rn (zG xl) 53 37 [v0, v1, v2] (.ref 8 :: st) I J Q := (rGf f53_34 rfl).trans (tr_and rfl)
theorem x53_37_8 : Rn (zG xl) 53 37 [v0, v1, v2] (.ref 8 :: st) I J Q = Rn (zG xl) 53 40 [v0, v1, v2] (.ref 10 :: st) I J Q := (rGf f53_37 rfl).trans (tr_and rfl)
theorem x53_37_28 : Rn (zG xl) 53 37 [v0, v1, v2] (.ref 28 :: st) I J Q = Rn (zG xl) 53 40 [v0, v1, v2] (.ref 30 :: st) I J Q := (rGf f53_37 rfl).trans (tr_and rfl)
theorem x53_40 : Rn S 53 40 [v0, v1, .int a] st I J Q = Rn S 53 41 [v0, v1, .int a] (.int a :: st) I J Q := rL f53_40 rfl rfl
theorem x53_41 : Rn S 53 41 [v0, v1, v2] (.int a :: .ref q :: st) I J Q = (zai S q a ∧ Rn S 53 42 [v0, v1, v2] (.int (I q a.toNatClampNeg) :: st) I J Q) := rIal f53_41
theorem x53_42 : Rn S 53 42 [.ref q, v1, v2] st I J Q = Rn S 53 43 [.ref q, v1, v2] (.ref q :: st) I J Q := rL f53_42 rfl rfl
theorem x53_43_0 : Rn (zG xl) 53 43 [v0, v1, v2] (.ref 0 :: st) I J Q = Rn (zG xl) 53 46 [v0, v1, v2] (.ref 8 :: st) I J Q := (rGf f53_43 rfl).trans (tr_and rfl)
theorem x53_46_8 : Rn (zG xl) 53 46 [v0, v1, v2] (.ref 8 :: st) I J Q = Rn (zG xl) 53 49 [v0, v1, v2] (.ref 10 :: st) I J Q := (rGf f53_46 rfl).trans (tr_and rfl)
theorem x53_46_28 : Rn (zG xl) 53 46 [v0, v1, v2] (.ref 28 :: st) I J Q = Rn (zG xl) 53 49 [v0, v1, v2] (.ref 30 :: st) I J Q := (rGf f53_46 rfl).trans (tr_and rfl)
theorem x53_49 : Rn S 53 49 [v0, .int a, v2] st I J Q = Rn S 53 50 [v0, .int a, v2] (.int a :: st) I J Q := rL f53_49 rfl rfl
theorem x53_50 : Rn S 53 50 [v0, v1, v2] (.int a :: .ref q :: st) I J Q = (zai S q a ∧ Rn S 53 51 [v0, v1, v2] (.int (I q a.toNatClampNeg) :: st) I J Q) := rIal f53_50
theorem x53_51 : Rn S 53 51 [v0, v1, v2] (.int b :: .int a :: st) I J Q = if b < a then Rn S 53 54 [v0, v1, v2] st I J Q else Rn S 53 56 [v0, v1, v2] st I J Q := rCle f53_51 rfl rfl
theorem x53_54 : Rn S 53 54 [v0, v1, .int a] st I J Q = Rn S 53 55 [v0, v1, .int a] (.int a :: st) I J Q := rL f53_54 rfl rfl
theorem x53_55 : Rn S 53 55 [v0, v1, v2] (.int a :: st) I J Q = Rn S 53 56 [zkl v0, .int a, v2] st I J Q := rL f53_55 rfl rfl
theorem x53_56 : Rn S 53 56 [v0, v1, .int a] st I J Q = Rn S 53 59 [v0, zkl v1, .int (a + 1)] st I J Q := rL f53_56 rfl rfl
theorem x53_59 : Rn S 53 59 [v0, v1, v2] st I J Q = Rn S 53 4 [v0, v1, v2] st I J Q := rB f53_59 rfl rfl rfl
theorem x53_62 : Rn S 53 62 [v0, .int a, v2] st I J Q = Rn S 53 63 [v0, .int a, v2] (.int a :: st) I J Q := rL f53_62 rfl rfl
theorem x53_63 : Rn S 53 63 [v0, v1, v2] [.int a] I J Q = Q (some (.int a)) I J := rR f53_63 rfl rfl rfl rfl rfl
/-! X5.left: 54 -/
theorem B54 : zB 54 = cX5_left := rfl
theorem f54_0 : zft 54 0 = some (.iload_n 1, 1) := fet B54 (by decide +kernel) (Or.inr rfl)
theorem f54_1 : zft 54 1 = some (.iconst 2, 1) := fet B54 (by decide +kernel) (Or.inr rfl)
theorem f54_2 : zft 54 2 = some (.invokestatic 72, 3) := fet B54 (by decide +kernel) (Or.inr rfl)
theorem f54_5 : zft 54 5 = some (.ifCond .ne 6, 3) := fet B54 (by decide +kernel) (Or.inr rfl)
theorem f54_8 : zft 54 8 = some (.bipush (-2), 2) := fet B54 (by decide +kernel) (Or.inr rfl)
theorem f54_10 : zft 54 10 = some (.ireturn, 1) := fet B54 (by decide +kernel) (Or.inr rfl)
theorem f54_11 : zft 54 11 = some (.iload_n 1, 1) := fet B54 (by decide +kernel) (Or.inr rfl)
theorem f54_12 : zft 54 12 = some (.ifCond .ne 13, 3) := fet B54 (by decide +kernel) (Or.inr rfl)
theorem f54_15 : zft 54 15 = some (.aload_n 0, 1) := fet B54 (by decide +kernel) (Or.inr rfl)
theorem f54_16 : zft 54 16 = some (.getfield 34, 3) := fet B54 (by decide +kernel) (Or.inr rfl)
theorem f54_19 : zft 54 19 = some (.invokevirtual 188, 3) := fet B54 (by decide +kernel) (Or.inr rfl)
theorem f54_22 : zft 54 22 = some (.goto 10, 3) := fet B54 (by decide +kernel) (Or.inr rfl)
theorem f54_25 : zft 54 25 = some (.aload_n 0, 1) := fet B54 (by decide +kernel) (Or.inr rfl)
theorem f54_26 : zft 54 26 = some (.getfield 34, 3) := fet B54 (by decide +kernel) (Or.inr rfl)
theorem f54_29 : zft 54 29 = some (.invokevirtual 191, 3) := fet B54 (by decide +kernel) (Or.inr rfl)
theorem f54_32 : zft 54 32 = some (.ireturn, 1) := fet B54 (by decide +kernel) (Or.inr rfl)
theorem x54_0 : Rn S 54 0 [v0, .int a] st I J Q = Rn S 54 1 [v0, .int a] (.int a :: st) I J Q := rL f54_0 rfl rfl
theorem x54_1 : Rn S 54 1 [v0, v1] st I J Q = Rn S 54 2 [v0, v1] (.int 2 :: st) I J Q := rS f54_1 rfl
theorem x54_2 : Rn S 54 2 [v0, v1] (.int a1 :: .int a0 :: st) I J Q = (zcs st ≤ 8 ∧ Rn S 81 0 [.int a0, .int a1] [] I J (fun v I' J' => Rn S 54 5 [v0, v1] (v.toList ++ st) I' J' Q)) := rCS (As := [.int a0, .int a1]) f54_2 rfl rfl rfl rfl (Nat.le_of_ble_eq_true rfl)
theorem x54_5 : Rn S 54 5 [v0, v1] (.int a :: st) I J Q = if a = 0 then Rn S 54 8 [v0, v1] st I J Q else Rn S 54 11 [v0, v1] st I J Q := rIne f54_5 rfl rfl
theorem x54_8 : Rn S 54 8 [v0, v1] st I J Q = Rn S 54 10 [v0, v1] (.int (-2) :: st) I J Q := rS f54_8 rfl
theorem x54_10 : Rn S 54 10 [v0, v1] [.int a] I J Q = Q (some (.int a)) I J := rR f54_10 rfl rfl rfl rfl rfl
theorem x54_11 : Rn S 54 11 [v0, .int a] st I J Q = Rn S 54 12 [v0, .int a] (.int a :: st) I J Q := rL f54_11 rfl rfl
theorem x54_12 : Rn S 54 12 [v0, v1] (.int a :: st) I J Q = if a = 0 then Rn S 54 15 [v0, v1] st I J Q else Rn S 54 25 [v0, v1] st I J Q := rIne f54_12 rfl rfl
theorem x54_15 : Rn S 54 15 [.ref q, v1] st I J Q = Rn S 54 16 [.ref q, v1] (.ref q :: st) I J Q := rL f54_15 rfl rfl
theorem x54_16_0 : Rn (zG xl) 54 16 [v0, v1] (.ref 0 :: st) I J Q = Rn (zG xl) 54 19 [v0, v1] (.ref 18 :: st) I J Q := (rGf f54_16 rfl).trans (tr_and rfl)
theorem x54_19 : Rn S 54 19 [v0, v1] (.ref q :: st) I J Q = ((zcls S q = 0 ∧ zcs st ≤ 8) ∧ Rn S 9 0 [.ref q, .null, .null] [] I J (fun v I' J' => Rn S 54 22 [v0, v1] (v.toList ++ st) I' J' Q)) := rCV (As := []) f54_19 rfl rfl rfl rfl (Nat.le_of_ble_eq_true rfl)
theorem x54_22 : Rn S 54 22 [v0, v1] st I J Q = Rn S 54 32 [v0, v1] st I J Q := rB f54_22 rfl rfl rfl
theorem x54_25 : Rn S 54 25 [.ref q, v1] st I J Q = Rn S 54 26 [.ref q, v1] (.ref q :: st) I J Q := rL f54_25 rfl rfl
theorem x54_26_0 : Rn (zG xl) 54 26 [v0, v1] (.ref 0 :: st) I J Q = Rn (zG xl) 54 29 [v0, v1] (.ref 18 :: st) I J Q := (rGf f54_26 rfl).trans (tr_and rfl)
theorem x54_29 : Rn S 54 29 [v0, v1] (.ref q :: st) I J Q = ((zcls S q = 0 ∧ zcs st ≤ 8) ∧ Rn S 10 0 [.ref q, .null, .null] [] I J (fun v I' J' => Rn S 54 32 [v0, v1] (v.toList ++ st) I' J' Q)) := rCV (As := []) f54_29 rfl rfl rfl rfl (Nat.le_of_ble_eq_true rfl)
theorem x54_32 : Rn S 54 32 [v0, v1] [.int a] I J Q = Q (some (.int a)) I J := rR f54_32 rfl rfl rfl rfl rfl
/-! X5.more: 55 -/
theorem B55 : zB 55 = cX5_more := rfl
theorem f55_0 : zft 55 0 = some (.iload_n 1, 1) := fet B55 (by decide +kernel) (Or.inr rfl)
theorem f55_1 : zft 55 1 = some (.iconst 3, 1) := fet B55 (by decide +kernel) (Or.inr rfl)
theorem f55_2 : zft 55 2 = some (.invokestatic 72, 3) := fet B55 (by decide +kernel) (Or.inr rfl)
theorem f55_5 : zft 55 5 = some (.ifCond .ne 6, 3) := fet B55 (by decide +kernel) (Or.inr rfl)
theorem f55_8 : zft 55 8 = some (.bipush (-2), 2) := fet B55 (by decide +kernel) (Or.inr rfl)
theorem f55_10 : zft 55 10 = some (.ireturn, 1) := fet B55 (by decide +kernel) (Or.inr rfl)
theorem f55_11 : zft 55 11 = some (.aload_n 0, 1) := fet B55 (by decide +kernel) (Or.inr rfl)
theorem f55_12 : zft 55 12 = some (.invokevirtual 194, 3) := fet B55 (by decide +kernel) (Or.inr rfl)
theorem f55_15 : zft 55 15 = some (.aload_n 0, 1) := fet B55 (by decide +kernel) (Or.inr rfl)
theorem f55_16 : zft 55 16 = some (.getfield 58, 3) := fet B55 (by decide +kernel) (Or.inr rfl)
theorem f55_19 : zft 55 19 = some (.iload_n 1, 1) := fet B55 (by decide +kernel) (Or.inr rfl)
theorem f55_20 : zft 55 20 = some (.iaload, 1) := fet B55 (by decide +kernel) (Or.inr rfl)
theorem f55_21 : zft 55 21 = some (.ireturn, 1) := fet B55 (by decide +kernel) (Or.inr rfl)
theorem x55_0 : Rn S 55 0 [v0, .int a] st I J Q = Rn S 55 1 [v0, .int a] (.int a :: st) I J Q := rL f55_0 rfl rfl
theorem x55_1 : Rn S 55 1 [v0, v1] st I J Q = Rn S 55 2 [v0, v1] (.int 3 :: st) I J Q := rS f55_1 rfl
theorem x55_2 : Rn S 55 2 [v0, v1] (.int a1 :: .int a0 :: st) I J Q = (zcs st ≤ 8 ∧ Rn S 81 0 [.int a0, .int a1] [] I J (fun v I' J' => Rn S 55 5 [v0, v1] (v.toList ++ st) I' J' Q)) := rCS (As := [.int a0, .int a1]) f55_2 rfl rfl rfl rfl (Nat.le_of_ble_eq_true rfl)
theorem x55_5 : Rn S 55 5 [v0, v1] (.int a :: st) I J Q = if a = 0 then Rn S 55 8 [v0, v1] st I J Q else Rn S 55 11 [v0, v1] st I J Q := rIne f55_5 rfl rfl
theorem x55_8 : Rn S 55 8 [v0, v1] st I J Q = Rn S 55 10 [v0, v1] (.int (-2) :: st) I J Q := rS f55_8 rfl
theorem x55_10 : Rn S 55 10 [v0, v1] [.int a] I J Q = Q (some (.int a)) I J := rR f55_10 rfl rfl rfl rfl rfl
theorem x55_11 : Rn S 55 11 [.ref q, v1] st I J Q = Rn S 55 12 [.ref q, v1] (.ref q :: st) I J Q := rL f55_11 rfl rfl
theorem x55_12 : Rn S 55 12 [v0, v1] (.ref q :: st) I J Q = ((zcls S q = 5 ∧ zcs st ≤ 8) ∧ Rn S 85 0 [.ref q, .null, .null, .null] [] I J (fun v I' J' => Rn S 55 15 [v0, v1] (v.toList ++ st) I' J' Q)) := rCV (As := []) f55_12 rfl rfl rfl rfl (Nat.le_of_ble_eq_true rfl)
theorem x55_15 : Rn S 55 15 [.ref q, v1] st I J Q = Rn S 55 16 [.ref q, v1] (.ref q :: st) I J Q := rL f55_15 rfl rfl
theorem x55_16_0 : Rn (zG xl) 55 16 [v0, v1] (.ref 0 :: st) I J Q = Rn (zG xl) 55 19 [v0, v1] (.ref 61 :: st) I J Q := (rGf f55_16 rfl).trans (tr_and rfl)
theorem x55_19 : Rn S 55 19 [v0, .int a] st I J Q = Rn S 55 20 [v0, .int a] (.int a :: st) I J Q := rL f55_19 rfl rfl
theorem x55_20 : Rn S 55 20 [v0, v1] (.int a :: .ref q :: st) I J Q = (zai S q a ∧ Rn S 55 21 [v0, v1] (.int (I q a.toNatClampNeg) :: st) I J Q) := rIal f55_20
theorem x55_21 : Rn S 55 21 [v0, v1] [.int a] I J Q = Q (some (.int a)) I J := rR f55_21 rfl rfl rfl rfl rfl
/-! X5.late: 56 -/
theorem B56 : zB 56 = cX5_late := rfl
theorem f56_0 : zft 56 0 = some (.aload_n 0, 1) := fet B56 (by decide +kernel) (Or.inr rfl)
theorem f56_1 : zft 56 1 = some (.getfield 38, 3) := fet B56 (by decide +kernel) (Or.inr rfl)
theorem f56_4 : zft 56 4 = some (.aload_n 0, 1) := fet B56 (by decide +kernel) (Or.inr rfl)
theorem f56_5 : zft 56 5 = some (.getfield 27, 3) := fet B56 (by decide +kernel) (Or.inr rfl)
theorem f56_8 : zft 56 8 = some (.invokevirtual 197, 3) := fet B56 (by decide +kernel) (Or.inr rfl)
theorem f56_11 : zft 56 11 = some (.iconst 1, 1) := fet B56 (by decide +kernel) (Or.inr rfl)
theorem f56_12 : zft 56 12 = some (.istore_n 1, 1) := fet B56 (by decide +kernel) (Or.inr rfl)
theorem f56_13 : zft 56 13 = some (.iload_n 1, 1) := fet B56 (by decide +kernel) (Or.inr rfl)
theorem f56_14 : zft 56 14 = some (.bipush 24, 2) := fet B56 (by decide +kernel) (Or.inr rfl)
theorem f56_16 : zft 56 16 = some (.if_icmp .gt 44, 3) := fet B56 (by decide +kernel) (Or.inr rfl)
theorem f56_19 : zft 56 19 = some (.aload_n 0, 1) := fet B56 (by decide +kernel) (Or.inr rfl)
theorem f56_20 : zft 56 20 = some (.getfield 38, 3) := fet B56 (by decide +kernel) (Or.inr rfl)
theorem f56_23 : zft 56 23 = some (.iload_n 1, 1) := fet B56 (by decide +kernel) (Or.inr rfl)
theorem f56_24 : zft 56 24 = some (.putfield 120, 3) := fet B56 (by decide +kernel) (Or.inr rfl)
theorem f56_27 : zft 56 27 = some (.aload_n 0, 1) := fet B56 (by decide +kernel) (Or.inr rfl)
theorem f56_28 : zft 56 28 = some (.getfield 41, 3) := fet B56 (by decide +kernel) (Or.inr rfl)
theorem f56_31 : zft 56 31 = some (.aload_n 0, 1) := fet B56 (by decide +kernel) (Or.inr rfl)
theorem f56_32 : zft 56 32 = some (.getfield 38, 3) := fet B56 (by decide +kernel) (Or.inr rfl)
theorem f56_35 : zft 56 35 = some (.invokevirtual 123, 3) := fet B56 (by decide +kernel) (Or.inr rfl)
theorem f56_38 : zft 56 38 = some (.aload_n 0, 1) := fet B56 (by decide +kernel) (Or.inr rfl)
theorem f56_39 : zft 56 39 = some (.getfield 41, 3) := fet B56 (by decide +kernel) (Or.inr rfl)
theorem f56_42 : zft 56 42 = some (.aload_n 0, 1) := fet B56 (by decide +kernel) (Or.inr rfl)
theorem f56_43 : zft 56 43 = some (.getfield 38, 3) := fet B56 (by decide +kernel) (Or.inr rfl)
theorem f56_46 : zft 56 46 = some (.invokevirtual 184, 3) := fet B56 (by decide +kernel) (Or.inr rfl)
theorem f56_49 : zft 56 49 = some (.ifCond .ne 5, 3) := fet B56 (by decide +kernel) (Or.inr rfl)
theorem f56_52 : zft 56 52 = some (.iload_n 1, 1) := fet B56 (by decide +kernel) (Or.inr rfl)
theorem f56_53 : zft 56 53 = some (.ireturn, 1) := fet B56 (by decide +kernel) (Or.inr rfl)
theorem f56_54 : zft 56 54 = some (.iinc 1 1, 3) := fet B56 (by decide +kernel) (Or.inr rfl)
theorem f56_57 : zft 56 57 = some (.goto (-44), 3) := fet B56 (by decide +kernel) (Or.inr rfl)
theorem f56_60 : zft 56 60 = some (.iconst (-1), 1) := fet B56 (by decide +kernel) (Or.inr rfl)
theorem f56_61 : zft 56 61 = some (.ireturn, 1) := fet B56 (by decide +kernel) (Or.inr rfl)
theorem x56_0 : Rn S 56 0 [.ref q, v1] st I J Q = Rn S 56 1 [.ref q, v1] (.ref q :: st) I J Q := rL f56_0 rfl rfl
theorem x56_1_0 : Rn (zG xl) 56 1 [v0, v1] (.ref 0 :: st) I J Q = Rn (zG xl) 56 4 [v0, v1] (.ref 28 :: st) I J Q := (rGf f56_1 rfl).trans (tr_and rfl)
theorem x56_4 : Rn S 56 4 [.ref q, v1] st I J Q = Rn S 56 5 [.ref q, v1] (.ref q :: st) I J Q := rL f56_4 rfl rfl
theorem x56_5_0 : Rn (zG xl) 56 5 [v0, v1] (.ref 0 :: st) I J Q = Rn (zG xl) 56 8 [v0, v1] (.ref 8 :: st) I J Q := (rGf f56_5 rfl).trans (tr_and rfl)
theorem x56_8 : Rn S 56 8 [v0, v1] (.ref q0 :: .ref q :: st) I J Q = ((zcls S q = 1 ∧ zcs st ≤ 8) ∧ Rn S 14 0 [.ref q, .ref q0] [] I J (fun v I' J' => Rn S 56 11 [v0, v1] (v.toList ++ st) I' J' Q)) := rCV (As := [.ref q0]) f56_8 rfl rfl rfl rfl (Nat.le_of_ble_eq_true rfl)
theorem x56_11 : Rn S 56 11 [v0, v1] st I J Q = Rn S 56 12 [v0, v1] (.int 1 :: st) I J Q := rS f56_11 rfl
theorem x56_12 : Rn S 56 12 [v0, v1] (.int a :: st) I J Q = Rn S 56 13 [zkl v0, .int a] st I J Q := rL f56_12 rfl rfl
theorem h56_13 : Rn S 56 13 [v0, .int a] st I J Q = Rn S 56 14 [v0, .int a] (.int a :: st) I J Q := rL f56_13 rfl rfl
theorem x56_14 : Rn S 56 14 [v0, v1] st I J Q = Rn S 56 16 [v0, v1] (.int 24 :: st) I J Q := rS f56_14 rfl
theorem x56_16 : Rn S 56 16 [v0, v1] (.int b :: .int a :: st) I J Q = if b < a then Rn S 56 60 [v0, v1] st I J Q else Rn S 56 19 [v0, v1] st I J Q := rCgt f56_16 rfl rfl
theorem x56_19 : Rn S 56 19 [.ref q, v1] st I J Q = Rn S 56 20 [.ref q, v1] (.ref q :: st) I J Q := rL f56_19 rfl rfl
theorem x56_20_0 : Rn (zG xl) 56 20 [v0, v1] (.ref 0 :: st) I J Q = Rn (zG xl) 56 23 [v0, v1] (.ref 28 :: st) I J Q := (rGf f56_20 rfl).trans (tr_and rfl)
theorem x56_23 : Rn S 56 23 [v0, .int a] st I J Q = Rn S 56 24 [v0, .int a] (.int a :: st) I J Q := rL f56_23 rfl rfl
theorem x56_24_8 : Rn (zG xl) 56 24 [v0, v1] (.int a :: .ref 8 :: st) I J Q = Rn (zG xl) 56 27 [v0, v1] st (zr I 8 (upd (I 8) 14 a)) J Q := (rPf f56_24 rfl).trans (tr_pf rfl rfl rfl)
theorem x56_24_28 : Rn (zG xl) 56 24 [v0, v1] (.int a :: .ref 28 :: st) I J Q = Rn (zG xl) 56 27 [v0, v1] st (zr I 28 (upd (I 28) 14 a)) J Q := (rPf f56_24 rfl).trans (tr_pf rfl rfl rfl)
theorem x56_27 : Rn S 56 27 [.ref q, v1] st I J Q = Rn S 56 28 [.ref q, v1] (.ref q :: st) I J Q := rL f56_27 rfl rfl
theorem x56_28_0 : Rn (zG xl) 56 28 [v0, v1] (.ref 0 :: st) I J Q = Rn (zG xl) 56 31 [v0, v1] (.ref 38 :: st) I J Q := (rGf f56_28 rfl).trans (tr_and rfl)
theorem x56_31 : Rn S 56 31 [.ref q, v1] st I J Q = Rn S 56 32 [.ref q, v1] (.ref q :: st) I J Q := rL f56_31 rfl rfl
theorem x56_32_0 : Rn (zG xl) 56 32 [v0, v1] (.ref 0 :: st) I J Q = Rn (zG xl) 56 35 [v0, v1] (.ref 28 :: st) I J Q := (rGf f56_32 rfl).trans (tr_and rfl)
theorem x56_35 : Rn S 56 35 [v0, v1] (.ref q0 :: .ref q :: st) I J Q = ((zcls S q = 0 ∧ zcs st ≤ 8) ∧ Rn S 1 0 [.ref q, .ref q0, .null, .null] [] I J (fun v I' J' => Rn S 56 38 [v0, v1] (v.toList ++ st) I' J' Q)) := rCV (As := [.ref q0]) f56_35 rfl rfl rfl rfl (Nat.le_of_ble_eq_true rfl)
theorem x56_38 : Rn S 56 38 [.ref q, v1] st I J Q = Rn S 56 39 [.ref q, v1] (.ref q :: st) I J Q := rL f56_38 rfl rfl
theorem x56_39_0 : Rn (zG xl) 56 39 [v0, v1] (.ref 0 :: st) I J Q = Rn (zG xl) 56 42 [v0, v1] (.ref 38 :: st) I J Q := (rGf f56_39 rfl).trans (tr_and rfl)
theorem x56_42 : Rn S 56 42 [.ref q, v1] st I J Q = Rn S 56 43 [.ref q, v1] (.ref q :: st) I J Q := rL f56_42 rfl rfl
theorem x56_43_0 : Rn (zG xl) 56 43 [v0, v1] (.ref 0 :: st) I J Q = Rn (zG xl) 56 46 [v0, v1] (.ref 28 :: st) I J Q := (rGf f56_43 rfl).trans (tr_and rfl)
theorem x56_46 : Rn S 56 46 [v0, v1] (.ref q0 :: .ref q :: st) I J Q = ((zcls S q = 0 ∧ zcs st ≤ 8) ∧ Rn S 8 0 [.ref q, .ref q0, .null, .null] [] I J (fun v I' J' => Rn S 56 49 [v0, v1] (v.toList ++ st) I' J' Q)) := rCV (As := [.ref q0]) f56_46 rfl rfl rfl rfl (Nat.le_of_ble_eq_true rfl)
theorem x56_49 : Rn S 56 49 [v0, v1] (.int a :: st) I J Q = if a = 0 then Rn S 56 52 [v0, v1] st I J Q else Rn S 56 54 [v0, v1] st I J Q := rIne f56_49 rfl rfl
theorem x56_52 : Rn S 56 52 [v0, .int a] st I J Q = Rn S 56 53 [v0, .int a] (.int a :: st) I J Q := rL f56_52 rfl rfl
theorem x56_53 : Rn S 56 53 [v0, v1] [.int a] I J Q = Q (some (.int a)) I J := rR f56_53 rfl rfl rfl rfl rfl
theorem x56_54 : Rn S 56 54 [v0, .int a] st I J Q = Rn S 56 57 [zkl v0, .int (a + 1)] st I J Q := rL f56_54 rfl rfl
theorem x56_57 : Rn S 56 57 [v0, v1] st I J Q = Rn S 56 13 [v0, v1] st I J Q := rB f56_57 rfl rfl rfl
theorem x56_60 : Rn S 56 60 [v0, v1] st I J Q = Rn S 56 61 [v0, v1] (.int (-1) :: st) I J Q := rS f56_60 rfl
theorem x56_61 : Rn S 56 61 [v0, v1] [.int a] I J Q = Q (some (.int a)) I J := rR f56_61 rfl rfl rfl rfl rfl
/-! X5.turn: 57 -/
theorem B57 : zB 57 = cX5_turn := rfl
theorem f57_0 : zft 57 0 = some (.iload_n 1, 1) := fet B57 (by decide +kernel) (Or.inr rfl)
theorem f57_1 : zft 57 1 = some (.iconst 3, 1) := fet B57 (by decide +kernel) (Or.inr rfl)
theorem f57_2 : zft 57 2 = some (.invokestatic 72, 3) := fet B57 (by decide +kernel) (Or.inr rfl)
theorem f57_5 : zft 57 5 = some (.ifCond .ne 6, 3) := fet B57 (by decide +kernel) (Or.inr rfl)
theorem f57_8 : zft 57 8 = some (.bipush (-2), 2) := fet B57 (by decide +kernel) (Or.inr rfl)
theorem f57_10 : zft 57 10 = some (.ireturn, 1) := fet B57 (by decide +kernel) (Or.inr rfl)
theorem f57_11 : zft 57 11 = some (.aload_n 0, 1) := fet B57 (by decide +kernel) (Or.inr rfl)
theorem f57_12 : zft 57 12 = some (.invokevirtual 200, 3) := fet B57 (by decide +kernel) (Or.inr rfl)
theorem f57_15 : zft 57 15 = some (.aload_n 0, 1) := fet B57 (by decide +kernel) (Or.inr rfl)
theorem f57_16 : zft 57 16 = some (.getfield 58, 3) := fet B57 (by decide +kernel) (Or.inr rfl)
theorem f57_19 : zft 57 19 = some (.iload_n 1, 1) := fet B57 (by decide +kernel) (Or.inr rfl)
theorem f57_20 : zft 57 20 = some (.iaload, 1) := fet B57 (by decide +kernel) (Or.inr rfl)
theorem f57_21 : zft 57 21 = some (.ireturn, 1) := fet B57 (by decide +kernel) (Or.inr rfl)
theorem x57_0 : Rn S 57 0 [v0, .int a] st I J Q = Rn S 57 1 [v0, .int a] (.int a :: st) I J Q := rL f57_0 rfl rfl
theorem x57_1 : Rn S 57 1 [v0, v1] st I J Q = Rn S 57 2 [v0, v1] (.int 3 :: st) I J Q := rS f57_1 rfl
theorem x57_2 : Rn S 57 2 [v0, v1] (.int a1 :: .int a0 :: st) I J Q = (zcs st ≤ 8 ∧ Rn S 81 0 [.int a0, .int a1] [] I J (fun v I' J' => Rn S 57 5 [v0, v1] (v.toList ++ st) I' J' Q)) := rCS (As := [.int a0, .int a1]) f57_2 rfl rfl rfl rfl (Nat.le_of_ble_eq_true rfl)
theorem x57_5 : Rn S 57 5 [v0, v1] (.int a :: st) I J Q = if a = 0 then Rn S 57 8 [v0, v1] st I J Q else Rn S 57 11 [v0, v1] st I J Q := rIne f57_5 rfl rfl
theorem x57_8 : Rn S 57 8 [v0, v1] st I J Q = Rn S 57 10 [v0, v1] (.int (-2) :: st) I J Q := rS f57_8 rfl
theorem x57_10 : Rn S 57 10 [v0, v1] [.int a] I J Q = Q (some (.int a)) I J := rR f57_10 rfl rfl rfl rfl rfl
theorem x57_11 : Rn S 57 11 [.ref q, v1] st I J Q = Rn S 57 12 [.ref q, v1] (.ref q :: st) I J Q := rL f57_11 rfl rfl
theorem x57_12 : Rn S 57 12 [v0, v1] (.ref q :: st) I J Q = ((zcls S q = 5 ∧ zcs st ≤ 8) ∧ Rn S 86 0 [.ref q, .null, .null] [] I J (fun v I' J' => Rn S 57 15 [v0, v1] (v.toList ++ st) I' J' Q)) := rCV (As := []) f57_12 rfl rfl rfl rfl (Nat.le_of_ble_eq_true rfl)
theorem x57_15 : Rn S 57 15 [.ref q, v1] st I J Q = Rn S 57 16 [.ref q, v1] (.ref q :: st) I J Q := rL f57_15 rfl rfl
theorem x57_16_0 : Rn (zG xl) 57 16 [v0, v1] (.ref 0 :: st) I J Q = Rn (zG xl) 57 19 [v0, v1] (.ref 61 :: st) I J Q := (rGf f57_16 rfl).trans (tr_and rfl)
theorem x57_19 : Rn S 57 19 [v0, .int a] st I J Q = Rn S 57 20 [v0, .int a] (.int a :: st) I J Q := rL f57_19 rfl rfl
theorem x57_20 : Rn S 57 20 [v0, v1] (.int a :: .ref q :: st) I J Q = (zai S q a ∧ Rn S 57 21 [v0, v1] (.int (I q a.toNatClampNeg) :: st) I J Q) := rIal f57_20
theorem x57_21 : Rn S 57 21 [v0, v1] [.int a] I J Q = Q (some (.int a)) I J := rR f57_21 rfl rfl rfl rfl rfl
/-! X5.hush: 58 -/
theorem B58 : zB 58 = cX5_hush := rfl
theorem f58_0 : zft 58 0 = some (.iload_n 1, 1) := fet B58 (by decide +kernel) (Or.inr rfl)
theorem f58_1 : zft 58 1 = some (.iconst (-1), 1) := fet B58 (by decide +kernel) (Or.inr rfl)
theorem f58_2 : zft 58 2 = some (.if_icmp .lt 8, 3) := fet B58 (by decide +kernel) (Or.inr rfl)
theorem f58_5 : zft 58 5 = some (.iload_n 1, 1) := fet B58 (by decide +kernel) (Or.inr rfl)
theorem f58_6 : zft 58 6 = some (.iconst 1, 1) := fet B58 (by decide +kernel) (Or.inr rfl)
theorem f58_7 : zft 58 7 = some (.if_icmp .le 6, 3) := fet B58 (by decide +kernel) (Or.inr rfl)
theorem f58_10 : zft 58 10 = some (.bipush (-2), 2) := fet B58 (by decide +kernel) (Or.inr rfl)
theorem f58_12 : zft 58 12 = some (.ireturn, 1) := fet B58 (by decide +kernel) (Or.inr rfl)
theorem f58_13 : zft 58 13 = some (.aload_n 0, 1) := fet B58 (by decide +kernel) (Or.inr rfl)
theorem f58_14 : zft 58 14 = some (.invokevirtual 203, 3) := fet B58 (by decide +kernel) (Or.inr rfl)
theorem f58_17 : zft 58 17 = some (.aload_n 0, 1) := fet B58 (by decide +kernel) (Or.inr rfl)
theorem f58_18 : zft 58 18 = some (.getfield 62, 3) := fet B58 (by decide +kernel) (Or.inr rfl)
theorem f58_21 : zft 58 21 = some (.iload_n 1, 1) := fet B58 (by decide +kernel) (Or.inr rfl)
theorem f58_22 : zft 58 22 = some (.iconst 1, 1) := fet B58 (by decide +kernel) (Or.inr rfl)
theorem f58_23 : zft 58 23 = some (.iadd, 1) := fet B58 (by decide +kernel) (Or.inr rfl)
theorem f58_24 : zft 58 24 = some (.iaload, 1) := fet B58 (by decide +kernel) (Or.inr rfl)
theorem f58_25 : zft 58 25 = some (.ireturn, 1) := fet B58 (by decide +kernel) (Or.inr rfl)
theorem x58_0 : Rn S 58 0 [v0, .int a] st I J Q = Rn S 58 1 [v0, .int a] (.int a :: st) I J Q := rL f58_0 rfl rfl
theorem x58_1 : Rn S 58 1 [v0, v1] st I J Q = Rn S 58 2 [v0, v1] (.int (-1) :: st) I J Q := rS f58_1 rfl
theorem x58_2 : Rn S 58 2 [v0, v1] (.int b :: .int a :: st) I J Q = if a < b then Rn S 58 10 [v0, v1] st I J Q else Rn S 58 5 [v0, v1] st I J Q := rClt f58_2 rfl rfl
theorem x58_5 : Rn S 58 5 [v0, .int a] st I J Q = Rn S 58 6 [v0, .int a] (.int a :: st) I J Q := rL f58_5 rfl rfl
theorem x58_6 : Rn S 58 6 [v0, v1] st I J Q = Rn S 58 7 [v0, v1] (.int 1 :: st) I J Q := rS f58_6 rfl
theorem x58_7 : Rn S 58 7 [v0, v1] (.int b :: .int a :: st) I J Q = if b < a then Rn S 58 10 [v0, v1] st I J Q else Rn S 58 13 [v0, v1] st I J Q := rCle f58_7 rfl rfl
theorem x58_10 : Rn S 58 10 [v0, v1] st I J Q = Rn S 58 12 [v0, v1] (.int (-2) :: st) I J Q := rS f58_10 rfl
theorem x58_12 : Rn S 58 12 [v0, v1] [.int a] I J Q = Q (some (.int a)) I J := rR f58_12 rfl rfl rfl rfl rfl
theorem x58_13 : Rn S 58 13 [.ref q, v1] st I J Q = Rn S 58 14 [.ref q, v1] (.ref q :: st) I J Q := rL f58_13 rfl rfl
theorem x58_14 : Rn S 58 14 [v0, v1] (.ref q :: st) I J Q = ((zcls S q = 5 ∧ zcs st ≤ 8) ∧ Rn S 88 0 [.ref q, .null, .null] [] I J (fun v I' J' => Rn S 58 17 [v0, v1] (v.toList ++ st) I' J' Q)) := rCV (As := []) f58_14 rfl rfl rfl rfl (Nat.le_of_ble_eq_true rfl)
theorem x58_17 : Rn S 58 17 [.ref q, v1] st I J Q = Rn S 58 18 [.ref q, v1] (.ref q :: st) I J Q := rL f58_17 rfl rfl
theorem x58_18_0 : Rn (zG xl) 58 18 [v0, v1] (.ref 0 :: st) I J Q = Rn (zG xl) 58 21 [v0, v1] (.ref 62 :: st) I J Q := (rGf f58_18 rfl).trans (tr_and rfl)
theorem x58_21 : Rn S 58 21 [v0, .int a] st I J Q = Rn S 58 22 [v0, .int a] (.int a :: st) I J Q := rL f58_21 rfl rfl
theorem x58_22 : Rn S 58 22 [v0, v1] st I J Q = Rn S 58 23 [v0, v1] (.int 1 :: st) I J Q := rS f58_22 rfl
theorem x58_23 : Rn S 58 23 [v0, v1] (.int b :: .int a :: st) I J Q = Rn S 58 24 [v0, v1] (.int (a + b) :: st) I J Q := rS f58_23 rfl
theorem x58_24 : Rn S 58 24 [v0, v1] (.int a :: .ref q :: st) I J Q = (zai S q a ∧ Rn S 58 25 [v0, v1] (.int (I q a.toNatClampNeg) :: st) I J Q) := rIal f58_24
theorem x58_25 : Rn S 58 25 [v0, v1] [.int a] I J Q = Q (some (.int a)) I J := rR f58_25 rfl rfl rfl rfl rfl
/-! X5.seen: 59 -/
theorem B59 : zB 59 = cX5_seen := rfl
theorem f59_0 : zft 59 0 = some (.iload_n 1, 1) := fet B59 (by decide +kernel) (Or.inr rfl)
theorem f59_1 : zft 59 1 = some (.bipush 24, 2) := fet B59 (by decide +kernel) (Or.inr rfl)
theorem f59_3 : zft 59 3 = some (.invokestatic 72, 3) := fet B59 (by decide +kernel) (Or.inr rfl)
theorem f59_6 : zft 59 6 = some (.ifCond .eq 20, 3) := fet B59 (by decide +kernel) (Or.inr rfl)
theorem f59_9 : zft 59 9 = some (.iload_n 2, 1) := fet B59 (by decide +kernel) (Or.inr rfl)
theorem f59_10 : zft 59 10 = some (.bipush 10, 2) := fet B59 (by decide +kernel) (Or.inr rfl)
theorem f59_12 : zft 59 12 = some (.invokestatic 72, 3) := fet B59 (by decide +kernel) (Or.inr rfl)
theorem f59_15 : zft 59 15 = some (.ifCond .eq 11, 3) := fet B59 (by decide +kernel) (Or.inr rfl)
theorem f59_18 : zft 59 18 = some (.iload_n 3, 1) := fet B59 (by decide +kernel) (Or.inr rfl)
theorem f59_19 : zft 59 19 = some (.iconst 2, 1) := fet B59 (by decide +kernel) (Or.inr rfl)
theorem f59_20 : zft 59 20 = some (.invokestatic 72, 3) := fet B59 (by decide +kernel) (Or.inr rfl)
theorem f59_23 : zft 59 23 = some (.ifCond .ne 6, 3) := fet B59 (by decide +kernel) (Or.inr rfl)
theorem f59_26 : zft 59 26 = some (.bipush (-2), 2) := fet B59 (by decide +kernel) (Or.inr rfl)
theorem f59_28 : zft 59 28 = some (.ireturn, 1) := fet B59 (by decide +kernel) (Or.inr rfl)
theorem f59_29 : zft 59 29 = some (.aload_n 0, 1) := fet B59 (by decide +kernel) (Or.inr rfl)
theorem f59_30 : zft 59 30 = some (.getfield 47, 3) := fet B59 (by decide +kernel) (Or.inr rfl)
theorem f59_33 : zft 59 33 = some (.getfield 206, 3) := fet B59 (by decide +kernel) (Or.inr rfl)
theorem f59_36 : zft 59 36 = some (.bipush 8, 2) := fet B59 (by decide +kernel) (Or.inr rfl)
theorem f59_38 : zft 59 38 = some (.if_icmp .lt 6, 3) := fet B59 (by decide +kernel) (Or.inr rfl)
theorem f59_41 : zft 59 41 = some (.bipush (-4), 2) := fet B59 (by decide +kernel) (Or.inr rfl)
theorem f59_43 : zft 59 43 = some (.ireturn, 1) := fet B59 (by decide +kernel) (Or.inr rfl)
theorem f59_44 : zft 59 44 = some (.aload_n 0, 1) := fet B59 (by decide +kernel) (Or.inr rfl)
theorem f59_45 : zft 59 45 = some (.getfield 47, 3) := fet B59 (by decide +kernel) (Or.inr rfl)
theorem f59_48 : zft 59 48 = some (.iload_n 1, 1) := fet B59 (by decide +kernel) (Or.inr rfl)
theorem f59_49 : zft 59 49 = some (.iload_n 2, 1) := fet B59 (by decide +kernel) (Or.inr rfl)
theorem f59_50 : zft 59 50 = some (.iload_n 3, 1) := fet B59 (by decide +kernel) (Or.inr rfl)
theorem f59_51 : zft 59 51 = some (.invokevirtual 209, 3) := fet B59 (by decide +kernel) (Or.inr rfl)
theorem f59_54 : zft 59 54 = some (.aload_n 0, 1) := fet B59 (by decide +kernel) (Or.inr rfl)
theorem f59_55 : zft 59 55 = some (.getfield 47, 3) := fet B59 (by decide +kernel) (Or.inr rfl)
theorem f59_58 : zft 59 58 = some (.getfield 206, 3) := fet B59 (by decide +kernel) (Or.inr rfl)
theorem f59_61 : zft 59 61 = some (.ireturn, 1) := fet B59 (by decide +kernel) (Or.inr rfl)
theorem x59_0 : Rn S 59 0 [v0, .int a, v2, v3] st I J Q = Rn S 59 1 [v0, .int a, v2, v3] (.int a :: st) I J Q := rL f59_0 rfl rfl
theorem x59_1 : Rn S 59 1 [v0, v1, v2, v3] st I J Q = Rn S 59 3 [v0, v1, v2, v3] (.int 24 :: st) I J Q := rS f59_1 rfl
theorem x59_3 : Rn S 59 3 [v0, v1, v2, v3] (.int a1 :: .int a0 :: st) I J Q = (zcs st ≤ 8 ∧ Rn S 81 0 [.int a0, .int a1] [] I J (fun v I' J' => Rn S 59 6 [v0, v1, v2, v3] (v.toList ++ st) I' J' Q)) := rCS (As := [.int a0, .int a1]) f59_3 rfl rfl rfl rfl (Nat.le_of_ble_eq_true rfl)
theorem x59_6 : Rn S 59 6 [v0, v1, v2, v3] (.int a :: st) I J Q = if a = 0 then Rn S 59 26 [v0, v1, v2, v3] st I J Q else Rn S 59 9 [v0, v1, v2, v3] st I J Q := rIeq f59_6 rfl rfl
theorem x59_9 : Rn S 59 9 [v0, v1, .int a, v3] st I J Q = Rn S 59 10 [v0, v1, .int a, v3] (.int a :: st) I J Q := rL f59_9 rfl rfl
theorem x59_10 : Rn S 59 10 [v0, v1, v2, v3] st I J Q = Rn S 59 12 [v0, v1, v2, v3] (.int 10 :: st) I J Q := rS f59_10 rfl
theorem x59_12 : Rn S 59 12 [v0, v1, v2, v3] (.int a1 :: .int a0 :: st) I J Q = (zcs st ≤ 8 ∧ Rn S 81 0 [.int a0, .int a1] [] I J (fun v I' J' => Rn S 59 15 [v0, v1, v2, v3] (v.toList ++ st) I' J' Q)) := rCS (As := [.int a0, .int a1]) f59_12 rfl rfl rfl rfl (Nat.le_of_ble_eq_true rfl)
theorem x59_15 : Rn S 59 15 [v0, v1, v2, v3] (.int a :: st) I J Q = if a = 0 then Rn S 59 26 [v0, v1, v2, v3] st I J Q else Rn S 59 18 [v0, v1, v2, v3] st I J Q := rIeq f59_15 rfl rfl
theorem x59_18 : Rn S 59 18 [v0, v1, v2, .int a] st I J Q = Rn S 59 19 [v0, v1, v2, .int a] (.int a :: st) I J Q := rL f59_18 rfl rfl
theorem x59_19 : Rn S 59 19 [v0, v1, v2, v3] st I J Q = Rn S 59 20 [v0, v1, v2, v3] (.int 2 :: st) I J Q := rS f59_19 rfl
theorem x59_20 : Rn S 59 20 [v0, v1, v2, v3] (.int a1 :: .int a0 :: st) I J Q = (zcs st ≤ 8 ∧ Rn S 81 0 [.int a0, .int a1] [] I J (fun v I' J' => Rn S 59 23 [v0, v1, v2, v3] (v.toList ++ st) I' J' Q)) := rCS (As := [.int a0, .int a1]) f59_20 rfl rfl rfl rfl (Nat.le_of_ble_eq_true rfl)
theorem x59_23 : Rn S 59 23 [v0, v1, v2, v3] (.int a :: st) I J Q = if a = 0 then Rn S 59 26 [v0, v1, v2, v3] st I J Q else Rn S 59 29 [v0, v1, v2, v3] st I J Q := rIne f59_23 rfl rfl
theorem x59_26 : Rn S 59 26 [v0, v1, v2, v3] st I J Q = Rn S 59 28 [v0, v1, v2, v3] (.int (-2) :: st) I J Q := rS f59_26 rfl
theorem x59_28 : Rn S 59 28 [v0, v1, v2, v3] [.int a] I J Q = Q (some (.int a)) I J := rR f59_28 rfl rfl rfl rfl rfl
theorem x59_29 : Rn S 59 29 [.ref q, v1, v2, v3] st I J Q = Rn S 59 30 [.ref q, v1, v2, v3] (.ref q :: st) I J Q := rL f59_29 rfl rfl
theorem x59_30_0 : Rn (zG xl) 59 30 [v0, v1, v2, v3] (.ref 0 :: st) I J Q = Rn (zG xl) 59 33 [v0, v1, v2, v3] (.ref 48 :: st) I J Q := (rGf f59_30 rfl).trans (tr_and rfl)
theorem x59_33_48 : Rn (zG xl) 59 33 [v0, v1, v2, v3] (.ref 48 :: st) I J Q = Rn (zG xl) 59 36 [v0, v1, v2, v3] (.int (I 48 0) :: st) I J Q := (rGf f59_33 rfl).trans (tr_and rfl)
theorem x59_36 : Rn S 59 36 [v0, v1, v2, v3] st I J Q = Rn S 59 38 [v0, v1, v2, v3] (.int 8 :: st) I J Q := rS f59_36 rfl
theorem x59_38 : Rn S 59 38 [v0, v1, v2, v3] (.int b :: .int a :: st) I J Q = if a < b then Rn S 59 44 [v0, v1, v2, v3] st I J Q else Rn S 59 41 [v0, v1, v2, v3] st I J Q := rClt f59_38 rfl rfl
theorem x59_41 : Rn S 59 41 [v0, v1, v2, v3] st I J Q = Rn S 59 43 [v0, v1, v2, v3] (.int (-4) :: st) I J Q := rS f59_41 rfl
theorem x59_43 : Rn S 59 43 [v0, v1, v2, v3] [.int a] I J Q = Q (some (.int a)) I J := rR f59_43 rfl rfl rfl rfl rfl
theorem x59_44 : Rn S 59 44 [.ref q, v1, v2, v3] st I J Q = Rn S 59 45 [.ref q, v1, v2, v3] (.ref q :: st) I J Q := rL f59_44 rfl rfl
theorem x59_45_0 : Rn (zG xl) 59 45 [v0, v1, v2, v3] (.ref 0 :: st) I J Q = Rn (zG xl) 59 48 [v0, v1, v2, v3] (.ref 48 :: st) I J Q := (rGf f59_45 rfl).trans (tr_and rfl)
theorem x59_48 : Rn S 59 48 [v0, .int a, v2, v3] st I J Q = Rn S 59 49 [v0, .int a, v2, v3] (.int a :: st) I J Q := rL f59_48 rfl rfl
theorem x59_49 : Rn S 59 49 [v0, v1, .int a, v3] st I J Q = Rn S 59 50 [v0, v1, .int a, v3] (.int a :: st) I J Q := rL f59_49 rfl rfl
theorem x59_50 : Rn S 59 50 [v0, v1, v2, .int a] st I J Q = Rn S 59 51 [v0, v1, v2, .int a] (.int a :: st) I J Q := rL f59_50 rfl rfl
theorem x59_51 : Rn S 59 51 [v0, v1, v2, v3] (.int a2 :: .int a1 :: .int a0 :: .ref q :: st) I J Q = ((zcls S q = 3 ∧ zcs st ≤ 8) ∧ Rn S 28 0 [.ref q, .int a0, .int a1, .int a2] [] I J (fun v I' J' => Rn S 59 54 [v0, v1, v2, v3] (v.toList ++ st) I' J' Q)) := rCV (As := [.int a0, .int a1, .int a2]) f59_51 rfl rfl rfl rfl (Nat.le_of_ble_eq_true rfl)
theorem x59_54 : Rn S 59 54 [.ref q, v1, v2, v3] st I J Q = Rn S 59 55 [.ref q, v1, v2, v3] (.ref q :: st) I J Q := rL f59_54 rfl rfl
theorem x59_55_0 : Rn (zG xl) 59 55 [v0, v1, v2, v3] (.ref 0 :: st) I J Q = Rn (zG xl) 59 58 [v0, v1, v2, v3] (.ref 48 :: st) I J Q := (rGf f59_55 rfl).trans (tr_and rfl)
theorem x59_58_48 : Rn (zG xl) 59 58 [v0, v1, v2, v3] (.ref 48 :: st) I J Q = Rn (zG xl) 59 61 [v0, v1, v2, v3] (.int (I 48 0) :: st) I J Q := (rGf f59_58 rfl).trans (tr_and rfl)
theorem x59_61 : Rn S 59 61 [v0, v1, v2, v3] [.int a] I J Q = Q (some (.int a)) I J := rR f59_61 rfl rfl rfl rfl rfl
/-! X5.forget: 60 -/
theorem B60 : zB 60 = cX5_forget := rfl
theorem f60_0 : zft 60 0 = some (.aload_n 0, 1) := fet B60 (by decide +kernel) (Or.inr rfl)
theorem f60_1 : zft 60 1 = some (.getfield 47, 3) := fet B60 (by decide +kernel) (Or.inr rfl)
theorem f60_4 : zft 60 4 = some (.getfield 206, 3) := fet B60 (by decide +kernel) (Or.inr rfl)
theorem f60_7 : zft 60 7 = some (.istore_n 1, 1) := fet B60 (by decide +kernel) (Or.inr rfl)
theorem f60_8 : zft 60 8 = some (.aload_n 0, 1) := fet B60 (by decide +kernel) (Or.inr rfl)
theorem f60_9 : zft 60 9 = some (.getfield 47, 3) := fet B60 (by decide +kernel) (Or.inr rfl)
theorem f60_12 : zft 60 12 = some (.iconst 0, 1) := fet B60 (by decide +kernel) (Or.inr rfl)
theorem f60_13 : zft 60 13 = some (.putfield 206, 3) := fet B60 (by decide +kernel) (Or.inr rfl)
theorem f60_16 : zft 60 16 = some (.iload_n 1, 1) := fet B60 (by decide +kernel) (Or.inr rfl)
theorem f60_17 : zft 60 17 = some (.ireturn, 1) := fet B60 (by decide +kernel) (Or.inr rfl)
theorem x60_0 : Rn S 60 0 [.ref q, v1] st I J Q = Rn S 60 1 [.ref q, v1] (.ref q :: st) I J Q := rL f60_0 rfl rfl
theorem x60_1_0 : Rn (zG xl) 60 1 [v0, v1] (.ref 0 :: st) I J Q = Rn (zG xl) 60 4 [v0, v1] (.ref 48 :: st) I J Q := (rGf f60_1 rfl).trans (tr_and rfl)
theorem x60_4_48 : Rn (zG xl) 60 4 [v0, v1] (.ref 48 :: st) I J Q = Rn (zG xl) 60 7 [v0, v1] (.int (I 48 0) :: st) I J Q := (rGf f60_4 rfl).trans (tr_and rfl)
theorem x60_7 : Rn S 60 7 [v0, v1] (.int a :: st) I J Q = Rn S 60 8 [zkl v0, .int a] st I J Q := rL f60_7 rfl rfl
theorem x60_8 : Rn S 60 8 [.ref q, v1] st I J Q = Rn S 60 9 [.ref q, v1] (.ref q :: st) I J Q := rL f60_8 rfl rfl
theorem x60_9_0 : Rn (zG xl) 60 9 [v0, v1] (.ref 0 :: st) I J Q = Rn (zG xl) 60 12 [v0, v1] (.ref 48 :: st) I J Q := (rGf f60_9 rfl).trans (tr_and rfl)
theorem x60_12 : Rn S 60 12 [v0, v1] st I J Q = Rn S 60 13 [v0, v1] (.int 0 :: st) I J Q := rS f60_12 rfl
theorem x60_13_48 : Rn (zG xl) 60 13 [v0, v1] (.int a :: .ref 48 :: st) I J Q = Rn (zG xl) 60 16 [v0, v1] st (zr I 48 (upd (I 48) 0 a)) J Q := (rPf f60_13 rfl).trans (tr_pf rfl rfl rfl)
theorem x60_16 : Rn S 60 16 [v0, .int a] st I J Q = Rn S 60 17 [v0, .int a] (.int a :: st) I J Q := rL f60_16 rfl rfl
theorem x60_17 : Rn S 60 17 [v0, v1] [.int a] I J Q = Q (some (.int a)) I J := rR f60_17 rfl rfl rfl rfl rfl
/-! X5.never: 61 -/
theorem B61 : zB 61 = cX5_never := rfl
theorem f61_0 : zft 61 0 = some (.aload_n 0, 1) := fet B61 (by decide +kernel) (Or.inr rfl)
theorem f61_1 : zft 61 1 = some (.getfield 38, 3) := fet B61 (by decide +kernel) (Or.inr rfl)
theorem f61_4 : zft 61 4 = some (.aload_n 0, 1) := fet B61 (by decide +kernel) (Or.inr rfl)
theorem f61_5 : zft 61 5 = some (.getfield 27, 3) := fet B61 (by decide +kernel) (Or.inr rfl)
theorem f61_8 : zft 61 8 = some (.invokevirtual 197, 3) := fet B61 (by decide +kernel) (Or.inr rfl)
theorem f61_11 : zft 61 11 = some (.iconst 0, 1) := fet B61 (by decide +kernel) (Or.inr rfl)
theorem f61_12 : zft 61 12 = some (.istore_n 1, 1) := fet B61 (by decide +kernel) (Or.inr rfl)
theorem f61_13 : zft 61 13 = some (.iconst 0, 1) := fet B61 (by decide +kernel) (Or.inr rfl)
theorem f61_14 : zft 61 14 = some (.istore_n 2, 1) := fet B61 (by decide +kernel) (Or.inr rfl)
theorem f61_15 : zft 61 15 = some (.iload_n 2, 1) := fet B61 (by decide +kernel) (Or.inr rfl)
theorem f61_16 : zft 61 16 = some (.aload_n 0, 1) := fet B61 (by decide +kernel) (Or.inr rfl)
theorem f61_17 : zft 61 17 = some (.getfield 27, 3) := fet B61 (by decide +kernel) (Or.inr rfl)
theorem f61_20 : zft 61 20 = some (.getfield 131, 3) := fet B61 (by decide +kernel) (Or.inr rfl)
theorem f61_23 : zft 61 23 = some (.if_icmp .ge 50, 3) := fet B61 (by decide +kernel) (Or.inr rfl)
theorem f61_26 : zft 61 26 = some (.aload_n 0, 1) := fet B61 (by decide +kernel) (Or.inr rfl)
theorem f61_27 : zft 61 27 = some (.getfield 38, 3) := fet B61 (by decide +kernel) (Or.inr rfl)
theorem f61_30 : zft 61 30 = some (.iconst 1, 1) := fet B61 (by decide +kernel) (Or.inr rfl)
theorem f61_31 : zft 61 31 = some (.iload_n 2, 1) := fet B61 (by decide +kernel) (Or.inr rfl)
theorem f61_32 : zft 61 32 = some (.ishl, 1) := fet B61 (by decide +kernel) (Or.inr rfl)
theorem f61_33 : zft 61 33 = some (.putfield 212, 3) := fet B61 (by decide +kernel) (Or.inr rfl)
theorem f61_36 : zft 61 36 = some (.aload_n 0, 1) := fet B61 (by decide +kernel) (Or.inr rfl)
theorem f61_37 : zft 61 37 = some (.getfield 41, 3) := fet B61 (by decide +kernel) (Or.inr rfl)
theorem f61_40 : zft 61 40 = some (.aload_n 0, 1) := fet B61 (by decide +kernel) (Or.inr rfl)
theorem f61_41 : zft 61 41 = some (.getfield 38, 3) := fet B61 (by decide +kernel) (Or.inr rfl)
theorem f61_44 : zft 61 44 = some (.invokevirtual 123, 3) := fet B61 (by decide +kernel) (Or.inr rfl)
theorem f61_47 : zft 61 47 = some (.aload_n 0, 1) := fet B61 (by decide +kernel) (Or.inr rfl)
theorem f61_48 : zft 61 48 = some (.getfield 47, 3) := fet B61 (by decide +kernel) (Or.inr rfl)
theorem f61_51 : zft 61 51 = some (.aload_n 0, 1) := fet B61 (by decide +kernel) (Or.inr rfl)
theorem f61_52 : zft 61 52 = some (.getfield 41, 3) := fet B61 (by decide +kernel) (Or.inr rfl)
theorem f61_55 : zft 61 55 = some (.invokevirtual 215, 3) := fet B61 (by decide +kernel) (Or.inr rfl)
theorem f61_58 : zft 61 58 = some (.ifCond .eq 9, 3) := fet B61 (by decide +kernel) (Or.inr rfl)
theorem f61_61 : zft 61 61 = some (.iload_n 1, 1) := fet B61 (by decide +kernel) (Or.inr rfl)
theorem f61_62 : zft 61 62 = some (.iconst 1, 1) := fet B61 (by decide +kernel) (Or.inr rfl)
theorem f61_63 : zft 61 63 = some (.iload_n 2, 1) := fet B61 (by decide +kernel) (Or.inr rfl)
theorem f61_64 : zft 61 64 = some (.ishl, 1) := fet B61 (by decide +kernel) (Or.inr rfl)
theorem f61_65 : zft 61 65 = some (.ior, 1) := fet B61 (by decide +kernel) (Or.inr rfl)
theorem f61_66 : zft 61 66 = some (.istore_n 1, 1) := fet B61 (by decide +kernel) (Or.inr rfl)
theorem f61_67 : zft 61 67 = some (.iinc 2 1, 3) := fet B61 (by decide +kernel) (Or.inr rfl)
theorem f61_70 : zft 61 70 = some (.goto (-55), 3) := fet B61 (by decide +kernel) (Or.inr rfl)
theorem f61_73 : zft 61 73 = some (.iload_n 1, 1) := fet B61 (by decide +kernel) (Or.inr rfl)
theorem f61_74 : zft 61 74 = some (.ireturn, 1) := fet B61 (by decide +kernel) (Or.inr rfl)
theorem x61_0 : Rn S 61 0 [.ref q, v1, v2] st I J Q = Rn S 61 1 [.ref q, v1, v2] (.ref q :: st) I J Q := rL f61_0 rfl rfl
theorem x61_1_0 : Rn (zG xl) 61 1 [v0, v1, v2] (.ref 0 :: st) I J Q = Rn (zG xl) 61 4 [v0, v1, v2] (.ref 28 :: st) I J Q := (rGf f61_1 rfl).trans (tr_and rfl)
theorem x61_4 : Rn S 61 4 [.ref q, v1, v2] st I J Q = Rn S 61 5 [.ref q, v1, v2] (.ref q :: st) I J Q := rL f61_4 rfl rfl
theorem x61_5_0 : Rn (zG xl) 61 5 [v0, v1, v2] (.ref 0 :: st) I J Q = Rn (zG xl) 61 8 [v0, v1, v2] (.ref 8 :: st) I J Q := (rGf f61_5 rfl).trans (tr_and rfl)
theorem x61_8 : Rn S 61 8 [v0, v1, v2] (.ref q0 :: .ref q :: st) I J Q = ((zcls S q = 1 ∧ zcs st ≤ 8) ∧ Rn S 14 0 [.ref q, .ref q0] [] I J (fun v I' J' => Rn S 61 11 [v0, v1, v2] (v.toList ++ st) I' J' Q)) := rCV (As := [.ref q0]) f61_8 rfl rfl rfl rfl (Nat.le_of_ble_eq_true rfl)
theorem x61_11 : Rn S 61 11 [v0, v1, v2] st I J Q = Rn S 61 12 [v0, v1, v2] (.int 0 :: st) I J Q := rS f61_11 rfl
theorem x61_12 : Rn S 61 12 [v0, v1, v2] (.int a :: st) I J Q = Rn S 61 13 [zkl v0, .int a, v2] st I J Q := rL f61_12 rfl rfl
theorem x61_13 : Rn S 61 13 [v0, v1, v2] st I J Q = Rn S 61 14 [v0, v1, v2] (.int 0 :: st) I J Q := rS f61_13 rfl
theorem x61_14 : Rn S 61 14 [v0, v1, v2] (.int a :: st) I J Q = Rn S 61 15 [v0, zkl v1, .int a] st I J Q := rL f61_14 rfl rfl
theorem h61_15 : Rn S 61 15 [v0, v1, .int a] st I J Q = Rn S 61 16 [v0, v1, .int a] (.int a :: st) I J Q := rL f61_15 rfl rfl
theorem x61_16 : Rn S 61 16 [.ref q, v1, v2] st I J Q = Rn S 61 17 [.ref q, v1, v2] (.ref q :: st) I J Q := rL f61_16 rfl rfl
theorem x61_17_0 : Rn (zG xl) 61 17 [v0, v1, v2] (.ref 0 :: st) I J Q = Rn (zG xl) 61 20 [v0, v1, v2] (.ref 8 :: st) I J Q := (rGf f61_17 rfl).trans (tr_and rfl)
theorem x61_20_8 : Rn (zG xl) 61 20 [v0, v1, v2] (.ref 8 :: st) I J Q = Rn (zG xl) 61 23 [v0, v1, v2] (.int (I 8 9) :: st) I J Q := (rGf f61_20 rfl).trans (tr_and rfl)
theorem x61_20_28 : Rn (zG xl) 61 20 [v0, v1, v2] (.ref 28 :: st) I J Q = Rn (zG xl) 61 23 [v0, v1, v2] (.int (I 28 9) :: st) I J Q := (rGf f61_20 rfl).trans (tr_and rfl)
theorem x61_23 : Rn S 61 23 [v0, v1, v2] (.int b :: .int a :: st) I J Q = if a < b then Rn S 61 26 [v0, v1, v2] st I J Q else Rn S 61 73 [v0, v1, v2] st I J Q := rCge f61_23 rfl rfl
theorem x61_26 : Rn S 61 26 [.ref q, v1, v2] st I J Q = Rn S 61 27 [.ref q, v1, v2] (.ref q :: st) I J Q := rL f61_26 rfl rfl
theorem x61_27_0 : Rn (zG xl) 61 27 [v0, v1, v2] (.ref 0 :: st) I J Q = Rn (zG xl) 61 30 [v0, v1, v2] (.ref 28 :: st) I J Q := (rGf f61_27 rfl).trans (tr_and rfl)
theorem x61_30 : Rn S 61 30 [v0, v1, v2] st I J Q = Rn S 61 31 [v0, v1, v2] (.int 1 :: st) I J Q := rS f61_30 rfl
theorem x61_31 : Rn S 61 31 [v0, v1, .int a] st I J Q = Rn S 61 32 [v0, v1, .int a] (.int a :: st) I J Q := rL f61_31 rfl rfl
theorem x61_32 : Rn S 61 32 [v0, v1, v2] (.int b :: .int a :: st) I J Q = Rn S 61 33 [v0, v1, v2] (.int (a <<< (b &&& 31)) :: st) I J Q := rS f61_32 rfl
theorem x61_33_8 : Rn (zG xl) 61 33 [v0, v1, v2] (.int a :: .ref 8 :: st) I J Q = Rn (zG xl) 61 36 [v0, v1, v2] st (zr I 8 (upd (I 8) 13 a)) J Q := (rPf f61_33 rfl).trans (tr_pf rfl rfl rfl)
theorem x61_33_28 : Rn (zG xl) 61 33 [v0, v1, v2] (.int a :: .ref 28 :: st) I J Q = Rn (zG xl) 61 36 [v0, v1, v2] st (zr I 28 (upd (I 28) 13 a)) J Q := (rPf f61_33 rfl).trans (tr_pf rfl rfl rfl)
theorem x61_36 : Rn S 61 36 [.ref q, v1, v2] st I J Q = Rn S 61 37 [.ref q, v1, v2] (.ref q :: st) I J Q := rL f61_36 rfl rfl
theorem x61_37_0 : Rn (zG xl) 61 37 [v0, v1, v2] (.ref 0 :: st) I J Q = Rn (zG xl) 61 40 [v0, v1, v2] (.ref 38 :: st) I J Q := (rGf f61_37 rfl).trans (tr_and rfl)
theorem x61_40 : Rn S 61 40 [.ref q, v1, v2] st I J Q = Rn S 61 41 [.ref q, v1, v2] (.ref q :: st) I J Q := rL f61_40 rfl rfl
theorem x61_41_0 : Rn (zG xl) 61 41 [v0, v1, v2] (.ref 0 :: st) I J Q = Rn (zG xl) 61 44 [v0, v1, v2] (.ref 28 :: st) I J Q := (rGf f61_41 rfl).trans (tr_and rfl)
theorem x61_44 : Rn S 61 44 [v0, v1, v2] (.ref q0 :: .ref q :: st) I J Q = ((zcls S q = 0 ∧ zcs st ≤ 8) ∧ Rn S 1 0 [.ref q, .ref q0, .null, .null] [] I J (fun v I' J' => Rn S 61 47 [v0, v1, v2] (v.toList ++ st) I' J' Q)) := rCV (As := [.ref q0]) f61_44 rfl rfl rfl rfl (Nat.le_of_ble_eq_true rfl)
theorem x61_47 : Rn S 61 47 [.ref q, v1, v2] st I J Q = Rn S 61 48 [.ref q, v1, v2] (.ref q :: st) I J Q := rL f61_47 rfl rfl
theorem x61_48_0 : Rn (zG xl) 61 48 [v0, v1, v2] (.ref 0 :: st) I J Q = Rn (zG xl) 61 51 [v0, v1, v2] (.ref 48 :: st) I J Q := (rGf f61_48 rfl).trans (tr_and rfl)
theorem x61_51 : Rn S 61 51 [.ref q, v1, v2] st I J Q = Rn S 61 52 [.ref q, v1, v2] (.ref q :: st) I J Q := rL f61_51 rfl rfl
theorem x61_52_0 : Rn (zG xl) 61 52 [v0, v1, v2] (.ref 0 :: st) I J Q = Rn (zG xl) 61 55 [v0, v1, v2] (.ref 38 :: st) I J Q := (rGf f61_52 rfl).trans (tr_and rfl)
theorem x61_55 : Rn S 61 55 [v0, v1, v2] (.ref q0 :: .ref q :: st) I J Q = ((zcls S q = 3 ∧ zcs st ≤ 8) ∧ Rn S 29 0 [.ref q, .ref q0, .null, .null] [] I J (fun v I' J' => Rn S 61 58 [v0, v1, v2] (v.toList ++ st) I' J' Q)) := rCV (As := [.ref q0]) f61_55 rfl rfl rfl rfl (Nat.le_of_ble_eq_true rfl)
theorem x61_58 : Rn S 61 58 [v0, v1, v2] (.int a :: st) I J Q = if a = 0 then Rn S 61 67 [v0, v1, v2] st I J Q else Rn S 61 61 [v0, v1, v2] st I J Q := rIeq f61_58 rfl rfl
theorem x61_61 : Rn S 61 61 [v0, .int a, v2] st I J Q = Rn S 61 62 [v0, .int a, v2] (.int a :: st) I J Q := rL f61_61 rfl rfl
theorem x61_62 : Rn S 61 62 [v0, v1, v2] st I J Q = Rn S 61 63 [v0, v1, v2] (.int 1 :: st) I J Q := rS f61_62 rfl
theorem x61_63 : Rn S 61 63 [v0, v1, .int a] st I J Q = Rn S 61 64 [v0, v1, .int a] (.int a :: st) I J Q := rL f61_63 rfl rfl
theorem x61_64 : Rn S 61 64 [v0, v1, v2] (.int b :: .int a :: st) I J Q = Rn S 61 65 [v0, v1, v2] (.int (a <<< (b &&& 31)) :: st) I J Q := rS f61_64 rfl
theorem x61_65 : Rn S 61 65 [v0, v1, v2] (.int b :: .int a :: st) I J Q = Rn S 61 66 [v0, v1, v2] (.int (a ||| b) :: st) I J Q := rS f61_65 rfl
theorem x61_66 : Rn S 61 66 [v0, v1, v2] (.int a :: st) I J Q = Rn S 61 67 [zkl v0, .int a, v2] st I J Q := rL f61_66 rfl rfl
theorem x61_67 : Rn S 61 67 [v0, v1, .int a] st I J Q = Rn S 61 70 [v0, zkl v1, .int (a + 1)] st I J Q := rL f61_67 rfl rfl
theorem x61_70 : Rn S 61 70 [v0, v1, v2] st I J Q = Rn S 61 15 [v0, v1, v2] st I J Q := rB f61_70 rfl rfl rfl
theorem x61_73 : Rn S 61 73 [v0, .int a, v2] st I J Q = Rn S 61 74 [v0, .int a, v2] (.int a :: st) I J Q := rL f61_73 rfl rfl
theorem x61_74 : Rn S 61 74 [v0, v1, v2] [.int a] I J Q = Q (some (.int a)) I J := rR f61_74 rfl rfl rfl rfl rfl
/-! X5.keens: 62 -/
theorem B62 : zB 62 = cX5_keens := rfl
theorem f62_0 : zft 62 0 = some (.iload_n 1, 1) := fet B62 (by decide +kernel) (Or.inr rfl)
theorem f62_1 : zft 62 1 = some (.aload_n 0, 1) := fet B62 (by decide +kernel) (Or.inr rfl)
theorem f62_2 : zft 62 2 = some (.getfield 27, 3) := fet B62 (by decide +kernel) (Or.inr rfl)
theorem f62_5 : zft 62 5 = some (.getfield 102, 3) := fet B62 (by decide +kernel) (Or.inr rfl)
theorem f62_8 : zft 62 8 = some (.invokestatic 72, 3) := fet B62 (by decide +kernel) (Or.inr rfl)
theorem f62_11 : zft 62 11 = some (.ifCond .eq 11, 3) := fet B62 (by decide +kernel) (Or.inr rfl)
theorem f62_14 : zft 62 14 = some (.aload_n 0, 1) := fet B62 (by decide +kernel) (Or.inr rfl)
theorem f62_15 : zft 62 15 = some (.iload_n 1, 1) := fet B62 (by decide +kernel) (Or.inr rfl)
theorem f62_16 : zft 62 16 = some (.invokevirtual 219, 3) := fet B62 (by decide +kernel) (Or.inr rfl)
theorem f62_19 : zft 62 19 = some (.goto 5, 3) := fet B62 (by decide +kernel) (Or.inr rfl)
theorem f62_22 : zft 62 22 = some (.bipush (-2), 2) := fet B62 (by decide +kernel) (Or.inr rfl)
theorem f62_24 : zft 62 24 = some (.ireturn, 1) := fet B62 (by decide +kernel) (Or.inr rfl)
theorem x62_0 : Rn S 62 0 [v0, .int a] st I J Q = Rn S 62 1 [v0, .int a] (.int a :: st) I J Q := rL f62_0 rfl rfl
theorem x62_1 : Rn S 62 1 [.ref q, v1] st I J Q = Rn S 62 2 [.ref q, v1] (.ref q :: st) I J Q := rL f62_1 rfl rfl
theorem x62_2_0 : Rn (zG xl) 62 2 [v0, v1] (.ref 0 :: st) I J Q = Rn (zG xl) 62 5 [v0, v1] (.ref 8 :: st) I J Q := (rGf f62_2 rfl).trans (tr_and rfl)
theorem x62_5_8 : Rn (zG xl) 62 5 [v0, v1] (.ref 8 :: st) I J Q = Rn (zG xl) 62 8 [v0, v1] (.int (I 8 3) :: st) I J Q := (rGf f62_5 rfl).trans (tr_and rfl)
theorem x62_5_28 : Rn (zG xl) 62 5 [v0, v1] (.ref 28 :: st) I J Q = Rn (zG xl) 62 8 [v0, v1] (.int (I 28 3) :: st) I J Q := (rGf f62_5 rfl).trans (tr_and rfl)
theorem x62_8 : Rn S 62 8 [v0, v1] (.int a1 :: .int a0 :: st) I J Q = (zcs st ≤ 8 ∧ Rn S 81 0 [.int a0, .int a1] [] I J (fun v I' J' => Rn S 62 11 [v0, v1] (v.toList ++ st) I' J' Q)) := rCS (As := [.int a0, .int a1]) f62_8 rfl rfl rfl rfl (Nat.le_of_ble_eq_true rfl)
theorem x62_11 : Rn S 62 11 [v0, v1] (.int a :: st) I J Q = if a = 0 then Rn S 62 22 [v0, v1] st I J Q else Rn S 62 14 [v0, v1] st I J Q := rIeq f62_11 rfl rfl
theorem x62_14 : Rn S 62 14 [.ref q, v1] st I J Q = Rn S 62 15 [.ref q, v1] (.ref q :: st) I J Q := rL f62_14 rfl rfl
theorem x62_15 : Rn S 62 15 [v0, .int a] st I J Q = Rn S 62 16 [v0, .int a] (.int a :: st) I J Q := rL f62_15 rfl rfl
theorem x62_16 : Rn S 62 16 [v0, v1] (.int a0 :: .ref q :: st) I J Q = ((zcls S q = 5 ∧ zcs st ≤ 8) ∧ Rn S 90 0 [.ref q, .int a0, .null, .null, .null] [] I J (fun v I' J' => Rn S 62 19 [v0, v1] (v.toList ++ st) I' J' Q)) := rCV (As := [.int a0]) f62_16 rfl rfl rfl rfl (Nat.le_of_ble_eq_true rfl)
theorem x62_19 : Rn S 62 19 [v0, v1] st I J Q = Rn S 62 24 [v0, v1] st I J Q := rB f62_19 rfl rfl rfl
theorem x62_22 : Rn S 62 22 [v0, v1] st I J Q = Rn S 62 24 [v0, v1] (.int (-2) :: st) I J Q := rS f62_22 rfl
theorem x62_24 : Rn S 62 24 [v0, v1] [.int a] I J Q = Q (some (.int a)) I J := rR f62_24 rfl rfl rfl rfl rfl
/-! X5.kind: 63 -/
theorem B63 : zB 63 = cX5_kind := rfl
theorem f63_0 : zft 63 0 = some (.iload_n 1, 1) := fet B63 (by decide +kernel) (Or.inr rfl)
theorem f63_1 : zft 63 1 = some (.aload_n 0, 1) := fet B63 (by decide +kernel) (Or.inr rfl)
theorem f63_2 : zft 63 2 = some (.getfield 27, 3) := fet B63 (by decide +kernel) (Or.inr rfl)
theorem f63_5 : zft 63 5 = some (.getfield 90, 3) := fet B63 (by decide +kernel) (Or.inr rfl)
theorem f63_8 : zft 63 8 = some (.invokestatic 72, 3) := fet B63 (by decide +kernel) (Or.inr rfl)
theorem f63_11 : zft 63 11 = some (.ifCond .ne 6, 3) := fet B63 (by decide +kernel) (Or.inr rfl)
theorem f63_14 : zft 63 14 = some (.bipush (-2), 2) := fet B63 (by decide +kernel) (Or.inr rfl)
theorem f63_16 : zft 63 16 = some (.ireturn, 1) := fet B63 (by decide +kernel) (Or.inr rfl)
theorem f63_17 : zft 63 17 = some (.aload_n 0, 1) := fet B63 (by decide +kernel) (Or.inr rfl)
theorem f63_18 : zft 63 18 = some (.getfield 38, 3) := fet B63 (by decide +kernel) (Or.inr rfl)
theorem f63_21 : zft 63 21 = some (.aload_n 0, 1) := fet B63 (by decide +kernel) (Or.inr rfl)
theorem f63_22 : zft 63 22 = some (.getfield 27, 3) := fet B63 (by decide +kernel) (Or.inr rfl)
theorem f63_25 : zft 63 25 = some (.invokevirtual 197, 3) := fet B63 (by decide +kernel) (Or.inr rfl)
theorem f63_28 : zft 63 28 = some (.iconst 0, 1) := fet B63 (by decide +kernel) (Or.inr rfl)
theorem f63_29 : zft 63 29 = some (.istore_n 2, 1) := fet B63 (by decide +kernel) (Or.inr rfl)
theorem f63_30 : zft 63 30 = some (.iconst 0, 1) := fet B63 (by decide +kernel) (Or.inr rfl)
theorem f63_31 : zft 63 31 = some (.istore_n 3, 1) := fet B63 (by decide +kernel) (Or.inr rfl)
theorem f63_32 : zft 63 32 = some (.iload_n 3, 1) := fet B63 (by decide +kernel) (Or.inr rfl)
theorem f63_33 : zft 63 33 = some (.iconst 3, 1) := fet B63 (by decide +kernel) (Or.inr rfl)
theorem f63_34 : zft 63 34 = some (.if_icmp .ge 50, 3) := fet B63 (by decide +kernel) (Or.inr rfl)
theorem f63_37 : zft 63 37 = some (.aload_n 0, 1) := fet B63 (by decide +kernel) (Or.inr rfl)
theorem f63_38 : zft 63 38 = some (.getfield 38, 3) := fet B63 (by decide +kernel) (Or.inr rfl)
theorem f63_41 : zft 63 41 = some (.getfield 93, 3) := fet B63 (by decide +kernel) (Or.inr rfl)
theorem f63_44 : zft 63 44 = some (.iload_n 1, 1) := fet B63 (by decide +kernel) (Or.inr rfl)
theorem f63_45 : zft 63 45 = some (.iload_n 3, 1) := fet B63 (by decide +kernel) (Or.inr rfl)
theorem f63_46 : zft 63 46 = some (.iastore, 1) := fet B63 (by decide +kernel) (Or.inr rfl)
theorem f63_47 : zft 63 47 = some (.aload_n 0, 1) := fet B63 (by decide +kernel) (Or.inr rfl)
theorem f63_48 : zft 63 48 = some (.getfield 41, 3) := fet B63 (by decide +kernel) (Or.inr rfl)
theorem f63_51 : zft 63 51 = some (.aload_n 0, 1) := fet B63 (by decide +kernel) (Or.inr rfl)
theorem f63_52 : zft 63 52 = some (.getfield 38, 3) := fet B63 (by decide +kernel) (Or.inr rfl)
theorem f63_55 : zft 63 55 = some (.invokevirtual 123, 3) := fet B63 (by decide +kernel) (Or.inr rfl)
theorem f63_58 : zft 63 58 = some (.aload_n 0, 1) := fet B63 (by decide +kernel) (Or.inr rfl)
theorem f63_59 : zft 63 59 = some (.getfield 47, 3) := fet B63 (by decide +kernel) (Or.inr rfl)
theorem f63_62 : zft 63 62 = some (.aload_n 0, 1) := fet B63 (by decide +kernel) (Or.inr rfl)
theorem f63_63 : zft 63 63 = some (.getfield 41, 3) := fet B63 (by decide +kernel) (Or.inr rfl)
theorem f63_66 : zft 63 66 = some (.invokevirtual 215, 3) := fet B63 (by decide +kernel) (Or.inr rfl)
theorem f63_69 : zft 63 69 = some (.ifCond .eq 9, 3) := fet B63 (by decide +kernel) (Or.inr rfl)
theorem f63_72 : zft 63 72 = some (.iload_n 2, 1) := fet B63 (by decide +kernel) (Or.inr rfl)
theorem f63_73 : zft 63 73 = some (.iconst 1, 1) := fet B63 (by decide +kernel) (Or.inr rfl)
theorem f63_74 : zft 63 74 = some (.iload_n 3, 1) := fet B63 (by decide +kernel) (Or.inr rfl)
theorem f63_75 : zft 63 75 = some (.ishl, 1) := fet B63 (by decide +kernel) (Or.inr rfl)
theorem f63_76 : zft 63 76 = some (.ior, 1) := fet B63 (by decide +kernel) (Or.inr rfl)
theorem f63_77 : zft 63 77 = some (.istore_n 2, 1) := fet B63 (by decide +kernel) (Or.inr rfl)
theorem f63_78 : zft 63 78 = some (.iinc 3 1, 3) := fet B63 (by decide +kernel) (Or.inr rfl)
theorem f63_81 : zft 63 81 = some (.goto (-49), 3) := fet B63 (by decide +kernel) (Or.inr rfl)
theorem f63_84 : zft 63 84 = some (.iload_n 2, 1) := fet B63 (by decide +kernel) (Or.inr rfl)
theorem f63_85 : zft 63 85 = some (.ireturn, 1) := fet B63 (by decide +kernel) (Or.inr rfl)
theorem x63_0 : Rn S 63 0 [v0, .int a, v2, v3] st I J Q = Rn S 63 1 [v0, .int a, v2, v3] (.int a :: st) I J Q := rL f63_0 rfl rfl
theorem x63_1 : Rn S 63 1 [.ref q, v1, v2, v3] st I J Q = Rn S 63 2 [.ref q, v1, v2, v3] (.ref q :: st) I J Q := rL f63_1 rfl rfl
theorem x63_2_0 : Rn (zG xl) 63 2 [v0, v1, v2, v3] (.ref 0 :: st) I J Q = Rn (zG xl) 63 5 [v0, v1, v2, v3] (.ref 8 :: st) I J Q := (rGf f63_2 rfl).trans (tr_and rfl)
theorem x63_5_8 : Rn (zG xl) 63 5 [v0, v1, v2, v3] (.ref 8 :: st) I J Q = Rn (zG xl) 63 8 [v0, v1, v2, v3] (.int (I 8 0) :: st) I J Q := (rGf f63_5 rfl).trans (tr_and rfl)
theorem x63_5_28 : Rn (zG xl) 63 5 [v0, v1, v2, v3] (.ref 28 :: st) I J Q = Rn (zG xl) 63 8 [v0, v1, v2, v3] (.int (I 28 0) :: st) I J Q := (rGf f63_5 rfl).trans (tr_and rfl)
theorem x63_8 : Rn S 63 8 [v0, v1, v2, v3] (.int a1 :: .int a0 :: st) I J Q = (zcs st ≤ 8 ∧ Rn S 81 0 [.int a0, .int a1] [] I J (fun v I' J' => Rn S 63 11 [v0, v1, v2, v3] (v.toList ++ st) I' J' Q)) := rCS (As := [.int a0, .int a1]) f63_8 rfl rfl rfl rfl (Nat.le_of_ble_eq_true rfl)
theorem x63_11 : Rn S 63 11 [v0, v1, v2, v3] (.int a :: st) I J Q = if a = 0 then Rn S 63 14 [v0, v1, v2, v3] st I J Q else Rn S 63 17 [v0, v1, v2, v3] st I J Q := rIne f63_11 rfl rfl
theorem x63_14 : Rn S 63 14 [v0, v1, v2, v3] st I J Q = Rn S 63 16 [v0, v1, v2, v3] (.int (-2) :: st) I J Q := rS f63_14 rfl
theorem x63_16 : Rn S 63 16 [v0, v1, v2, v3] [.int a] I J Q = Q (some (.int a)) I J := rR f63_16 rfl rfl rfl rfl rfl
theorem x63_17 : Rn S 63 17 [.ref q, v1, v2, v3] st I J Q = Rn S 63 18 [.ref q, v1, v2, v3] (.ref q :: st) I J Q := rL f63_17 rfl rfl
theorem x63_18_0 : Rn (zG xl) 63 18 [v0, v1, v2, v3] (.ref 0 :: st) I J Q = Rn (zG xl) 63 21 [v0, v1, v2, v3] (.ref 28 :: st) I J Q := (rGf f63_18 rfl).trans (tr_and rfl)
theorem x63_21 : Rn S 63 21 [.ref q, v1, v2, v3] st I J Q = Rn S 63 22 [.ref q, v1, v2, v3] (.ref q :: st) I J Q := rL f63_21 rfl rfl
theorem x63_22_0 : Rn (zG xl) 63 22 [v0, v1, v2, v3] (.ref 0 :: st) I J Q = Rn (zG xl) 63 25 [v0, v1, v2, v3] (.ref 8 :: st) I J Q := (rGf f63_22 rfl).trans (tr_and rfl)
theorem x63_25 : Rn S 63 25 [v0, v1, v2, v3] (.ref q0 :: .ref q :: st) I J Q = ((zcls S q = 1 ∧ zcs st ≤ 8) ∧ Rn S 14 0 [.ref q, .ref q0] [] I J (fun v I' J' => Rn S 63 28 [v0, v1, v2, v3] (v.toList ++ st) I' J' Q)) := rCV (As := [.ref q0]) f63_25 rfl rfl rfl rfl (Nat.le_of_ble_eq_true rfl)
theorem x63_28 : Rn S 63 28 [v0, v1, v2, v3] st I J Q = Rn S 63 29 [v0, v1, v2, v3] (.int 0 :: st) I J Q := rS f63_28 rfl
theorem x63_29 : Rn S 63 29 [v0, v1, v2, v3] (.int a :: st) I J Q = Rn S 63 30 [v0, zkl v1, .int a, v3] st I J Q := rL f63_29 rfl rfl
theorem x63_30 : Rn S 63 30 [v0, v1, v2, v3] st I J Q = Rn S 63 31 [v0, v1, v2, v3] (.int 0 :: st) I J Q := rS f63_30 rfl
theorem x63_31 : Rn S 63 31 [v0, v1, v2, v3] (.int a :: st) I J Q = Rn S 63 32 [v0, v1, zkl v2, .int a] st I J Q := rL f63_31 rfl rfl
theorem h63_32 : Rn S 63 32 [v0, v1, v2, .int a] st I J Q = Rn S 63 33 [v0, v1, v2, .int a] (.int a :: st) I J Q := rL f63_32 rfl rfl
theorem x63_33 : Rn S 63 33 [v0, v1, v2, v3] st I J Q = Rn S 63 34 [v0, v1, v2, v3] (.int 3 :: st) I J Q := rS f63_33 rfl
theorem x63_34 : Rn S 63 34 [v0, v1, v2, v3] (.int b :: .int a :: st) I J Q = if a < b then Rn S 63 37 [v0, v1, v2, v3] st I J Q else Rn S 63 84 [v0, v1, v2, v3] st I J Q := rCge f63_34 rfl rfl
theorem x63_37 : Rn S 63 37 [.ref q, v1, v2, v3] st I J Q = Rn S 63 38 [.ref q, v1, v2, v3] (.ref q :: st) I J Q := rL f63_37 rfl rfl
theorem x63_38_0 : Rn (zG xl) 63 38 [v0, v1, v2, v3] (.ref 0 :: st) I J Q = Rn (zG xl) 63 41 [v0, v1, v2, v3] (.ref 28 :: st) I J Q := (rGf f63_38 rfl).trans (tr_and rfl)
theorem x63_41_8 : Rn (zG xl) 63 41 [v0, v1, v2, v3] (.ref 8 :: st) I J Q = Rn (zG xl) 63 44 [v0, v1, v2, v3] (.ref 9 :: st) I J Q := (rGf f63_41 rfl).trans (tr_and rfl)
theorem x63_41_28 : Rn (zG xl) 63 41 [v0, v1, v2, v3] (.ref 28 :: st) I J Q = Rn (zG xl) 63 44 [v0, v1, v2, v3] (.ref 29 :: st) I J Q := (rGf f63_41 rfl).trans (tr_and rfl)
theorem x63_44 : Rn S 63 44 [v0, .int a, v2, v3] st I J Q = Rn S 63 45 [v0, .int a, v2, v3] (.int a :: st) I J Q := rL f63_44 rfl rfl
theorem x63_45 : Rn S 63 45 [v0, v1, v2, .int a] st I J Q = Rn S 63 46 [v0, v1, v2, .int a] (.int a :: st) I J Q := rL f63_45 rfl rfl
theorem x63_46 : Rn S 63 46 [v0, v1, v2, v3] (.int b :: .int a :: .ref q :: st) I J Q = (zas S q a ∧ Rn S 63 47 [v0, v1, v2, v3] st (zr I q (upd (I q) a.toNatClampNeg b)) J Q) := rIas f63_46
theorem x63_47 : Rn S 63 47 [.ref q, v1, v2, v3] st I J Q = Rn S 63 48 [.ref q, v1, v2, v3] (.ref q :: st) I J Q := rL f63_47 rfl rfl
theorem x63_48_0 : Rn (zG xl) 63 48 [v0, v1, v2, v3] (.ref 0 :: st) I J Q = Rn (zG xl) 63 51 [v0, v1, v2, v3] (.ref 38 :: st) I J Q := (rGf f63_48 rfl).trans (tr_and rfl)
theorem x63_51 : Rn S 63 51 [.ref q, v1, v2, v3] st I J Q = Rn S 63 52 [.ref q, v1, v2, v3] (.ref q :: st) I J Q := rL f63_51 rfl rfl
theorem x63_52_0 : Rn (zG xl) 63 52 [v0, v1, v2, v3] (.ref 0 :: st) I J Q = Rn (zG xl) 63 55 [v0, v1, v2, v3] (.ref 28 :: st) I J Q := (rGf f63_52 rfl).trans (tr_and rfl)
theorem x63_55 : Rn S 63 55 [v0, v1, v2, v3] (.ref q0 :: .ref q :: st) I J Q = ((zcls S q = 0 ∧ zcs st ≤ 8) ∧ Rn S 1 0 [.ref q, .ref q0, .null, .null] [] I J (fun v I' J' => Rn S 63 58 [v0, v1, v2, v3] (v.toList ++ st) I' J' Q)) := rCV (As := [.ref q0]) f63_55 rfl rfl rfl rfl (Nat.le_of_ble_eq_true rfl)
theorem x63_58 : Rn S 63 58 [.ref q, v1, v2, v3] st I J Q = Rn S 63 59 [.ref q, v1, v2, v3] (.ref q :: st) I J Q := rL f63_58 rfl rfl
theorem x63_59_0 : Rn (zG xl) 63 59 [v0, v1, v2, v3] (.ref 0 :: st) I J Q = Rn (zG xl) 63 62 [v0, v1, v2, v3] (.ref 48 :: st) I J Q := (rGf f63_59 rfl).trans (tr_and rfl)
theorem x63_62 : Rn S 63 62 [.ref q, v1, v2, v3] st I J Q = Rn S 63 63 [.ref q, v1, v2, v3] (.ref q :: st) I J Q := rL f63_62 rfl rfl
theorem x63_63_0 : Rn (zG xl) 63 63 [v0, v1, v2, v3] (.ref 0 :: st) I J Q = Rn (zG xl) 63 66 [v0, v1, v2, v3] (.ref 38 :: st) I J Q := (rGf f63_63 rfl).trans (tr_and rfl)
theorem x63_66 : Rn S 63 66 [v0, v1, v2, v3] (.ref q0 :: .ref q :: st) I J Q = ((zcls S q = 3 ∧ zcs st ≤ 8) ∧ Rn S 29 0 [.ref q, .ref q0, .null, .null] [] I J (fun v I' J' => Rn S 63 69 [v0, v1, v2, v3] (v.toList ++ st) I' J' Q)) := rCV (As := [.ref q0]) f63_66 rfl rfl rfl rfl (Nat.le_of_ble_eq_true rfl)
theorem x63_69 : Rn S 63 69 [v0, v1, v2, v3] (.int a :: st) I J Q = if a = 0 then Rn S 63 78 [v0, v1, v2, v3] st I J Q else Rn S 63 72 [v0, v1, v2, v3] st I J Q := rIeq f63_69 rfl rfl
theorem x63_72 : Rn S 63 72 [v0, v1, .int a, v3] st I J Q = Rn S 63 73 [v0, v1, .int a, v3] (.int a :: st) I J Q := rL f63_72 rfl rfl
theorem x63_73 : Rn S 63 73 [v0, v1, v2, v3] st I J Q = Rn S 63 74 [v0, v1, v2, v3] (.int 1 :: st) I J Q := rS f63_73 rfl
theorem x63_74 : Rn S 63 74 [v0, v1, v2, .int a] st I J Q = Rn S 63 75 [v0, v1, v2, .int a] (.int a :: st) I J Q := rL f63_74 rfl rfl
theorem x63_75 : Rn S 63 75 [v0, v1, v2, v3] (.int b :: .int a :: st) I J Q = Rn S 63 76 [v0, v1, v2, v3] (.int (a <<< (b &&& 31)) :: st) I J Q := rS f63_75 rfl
theorem x63_76 : Rn S 63 76 [v0, v1, v2, v3] (.int b :: .int a :: st) I J Q = Rn S 63 77 [v0, v1, v2, v3] (.int (a ||| b) :: st) I J Q := rS f63_76 rfl
theorem x63_77 : Rn S 63 77 [v0, v1, v2, v3] (.int a :: st) I J Q = Rn S 63 78 [v0, zkl v1, .int a, v3] st I J Q := rL f63_77 rfl rfl
theorem x63_78 : Rn S 63 78 [v0, v1, v2, .int a] st I J Q = Rn S 63 81 [v0, v1, zkl v2, .int (a + 1)] st I J Q := rL f63_78 rfl rfl
theorem x63_81 : Rn S 63 81 [v0, v1, v2, v3] st I J Q = Rn S 63 32 [v0, v1, v2, v3] st I J Q := rB f63_81 rfl rfl rfl
theorem x63_84 : Rn S 63 84 [v0, v1, .int a, v3] st I J Q = Rn S 63 85 [v0, v1, .int a, v3] (.int a :: st) I J Q := rL f63_84 rfl rfl
theorem x63_85 : Rn S 63 85 [v0, v1, v2, v3] [.int a] I J Q = Q (some (.int a)) I J := rR f63_85 rfl rfl rfl rfl rfl
/-! X5.ask: 64 -/
theorem B64 : zB 64 = cX5_ask := rfl
theorem f64_0 : zft 64 0 = some (.iload_n 1, 1) := fet B64 (by decide +kernel) (Or.inr rfl)
theorem f64_1 : zft 64 1 = some (.aload_n 0, 1) := fet B64 (by decide +kernel) (Or.inr rfl)
theorem f64_2 : zft 64 2 = some (.getfield 27, 3) := fet B64 (by decide +kernel) (Or.inr rfl)
theorem f64_5 : zft 64 5 = some (.getfield 102, 3) := fet B64 (by decide +kernel) (Or.inr rfl)
theorem f64_8 : zft 64 8 = some (.invokestatic 72, 3) := fet B64 (by decide +kernel) (Or.inr rfl)
theorem f64_11 : zft 64 11 = some (.ifCond .ne 6, 3) := fet B64 (by decide +kernel) (Or.inr rfl)
theorem f64_14 : zft 64 14 = some (.bipush (-2), 2) := fet B64 (by decide +kernel) (Or.inr rfl)
theorem f64_16 : zft 64 16 = some (.ireturn, 1) := fet B64 (by decide +kernel) (Or.inr rfl)
theorem f64_17 : zft 64 17 = some (.aload_n 0, 1) := fet B64 (by decide +kernel) (Or.inr rfl)
theorem f64_18 : zft 64 18 = some (.iload_n 1, 1) := fet B64 (by decide +kernel) (Or.inr rfl)
theorem f64_19 : zft 64 19 = some (.invokevirtual 219, 3) := fet B64 (by decide +kernel) (Or.inr rfl)
theorem f64_22 : zft 64 22 = some (.istore_n 2, 1) := fet B64 (by decide +kernel) (Or.inr rfl)
theorem f64_23 : zft 64 23 = some (.iconst 0, 1) := fet B64 (by decide +kernel) (Or.inr rfl)
theorem f64_24 : zft 64 24 = some (.istore_n 3, 1) := fet B64 (by decide +kernel) (Or.inr rfl)
theorem f64_25 : zft 64 25 = some (.bipush 10, 2) := fet B64 (by decide +kernel) (Or.inr rfl)
theorem f64_27 : zft 64 27 = some (.istore 4, 2) := fet B64 (by decide +kernel) (Or.inr rfl)
theorem f64_29 : zft 64 29 = some (.iconst 0, 1) := fet B64 (by decide +kernel) (Or.inr rfl)
theorem f64_30 : zft 64 30 = some (.istore 5, 2) := fet B64 (by decide +kernel) (Or.inr rfl)
theorem f64_32 : zft 64 32 = some (.iload 5, 2) := fet B64 (by decide +kernel) (Or.inr rfl)
theorem f64_34 : zft 64 34 = some (.bipush 24, 2) := fet B64 (by decide +kernel) (Or.inr rfl)
theorem f64_36 : zft 64 36 = some (.if_icmp .ge 32, 3) := fet B64 (by decide +kernel) (Or.inr rfl)
theorem f64_39 : zft 64 39 = some (.aload_n 0, 1) := fet B64 (by decide +kernel) (Or.inr rfl)
theorem f64_40 : zft 64 40 = some (.iload_n 2, 1) := fet B64 (by decide +kernel) (Or.inr rfl)
theorem f64_41 : zft 64 41 = some (.iload 5, 2) := fet B64 (by decide +kernel) (Or.inr rfl)
theorem f64_43 : zft 64 43 = some (.invokevirtual 222, 3) := fet B64 (by decide +kernel) (Or.inr rfl)
theorem f64_46 : zft 64 46 = some (.istore 6, 2) := fet B64 (by decide +kernel) (Or.inr rfl)
theorem f64_48 : zft 64 48 = some (.iload 6, 2) := fet B64 (by decide +kernel) (Or.inr rfl)
theorem f64_50 : zft 64 50 = some (.iload 4, 2) := fet B64 (by decide +kernel) (Or.inr rfl)
theorem f64_52 : zft 64 52 = some (.if_icmp .ge 10, 3) := fet B64 (by decide +kernel) (Or.inr rfl)
theorem f64_55 : zft 64 55 = some (.iload 6, 2) := fet B64 (by decide +kernel) (Or.inr rfl)
theorem f64_57 : zft 64 57 = some (.istore 4, 2) := fet B64 (by decide +kernel) (Or.inr rfl)
theorem f64_59 : zft 64 59 = some (.iload 5, 2) := fet B64 (by decide +kernel) (Or.inr rfl)
theorem f64_61 : zft 64 61 = some (.istore_n 3, 1) := fet B64 (by decide +kernel) (Or.inr rfl)
theorem f64_62 : zft 64 62 = some (.iinc 5 1, 3) := fet B64 (by decide +kernel) (Or.inr rfl)
theorem f64_65 : zft 64 65 = some (.goto (-33), 3) := fet B64 (by decide +kernel) (Or.inr rfl)
theorem f64_68 : zft 64 68 = some (.iload_n 3, 1) := fet B64 (by decide +kernel) (Or.inr rfl)
theorem f64_69 : zft 64 69 = some (.ireturn, 1) := fet B64 (by decide +kernel) (Or.inr rfl)
theorem x64_0 : Rn S 64 0 [v0, .int a, v2, v3, v4, v5, v6] st I J Q = Rn S 64 1 [v0, .int a, v2, v3, v4, v5, v6] (.int a :: st) I J Q := rL f64_0 rfl rfl
theorem x64_1 : Rn S 64 1 [.ref q, v1, v2, v3, v4, v5, v6] st I J Q = Rn S 64 2 [.ref q, v1, v2, v3, v4, v5, v6] (.ref q :: st) I J Q := rL f64_1 rfl rfl
theorem x64_2_0 : Rn (zG xl) 64 2 [v0, v1, v2, v3, v4, v5, v6] (.ref 0 :: st) I J Q = Rn (zG xl) 64 5 [v0, v1, v2, v3, v4, v5, v6] (.ref 8 :: st) I J Q := (rGf f64_2 rfl).trans (tr_and rfl)
theorem x64_5_8 : Rn (zG xl) 64 5 [v0, v1, v2, v3, v4, v5, v6] (.ref 8 :: st) I J Q = Rn (zG xl) 64 8 [v0, v1, v2, v3, v4, v5, v6] (.int (I 8 3) :: st) I J Q := (rGf f64_5 rfl).trans (tr_and rfl)
theorem x64_5_28 : Rn (zG xl) 64 5 [v0, v1, v2, v3, v4, v5, v6] (.ref 28 :: st) I J Q = Rn (zG xl) 64 8 [v0, v1, v2, v3, v4, v5, v6] (.int (I 28 3) :: st) I J Q := (rGf f64_5 rfl).trans (tr_and rfl)
theorem x64_8 : Rn S 64 8 [v0, v1, v2, v3, v4, v5, v6] (.int a1 :: .int a0 :: st) I J Q = (zcs st ≤ 8 ∧ Rn S 81 0 [.int a0, .int a1] [] I J (fun v I' J' => Rn S 64 11 [v0, v1, v2, v3, v4, v5, v6] (v.toList ++ st) I' J' Q)) := rCS (As := [.int a0, .int a1]) f64_8 rfl rfl rfl rfl (Nat.le_of_ble_eq_true rfl)
theorem x64_11 : Rn S 64 11 [v0, v1, v2, v3, v4, v5, v6] (.int a :: st) I J Q = if a = 0 then Rn S 64 14 [v0, v1, v2, v3, v4, v5, v6] st I J Q else Rn S 64 17 [v0, v1, v2, v3, v4, v5, v6] st I J Q := rIne f64_11 rfl rfl
theorem x64_14 : Rn S 64 14 [v0, v1, v2, v3, v4, v5, v6] st I J Q = Rn S 64 16 [v0, v1, v2, v3, v4, v5, v6] (.int (-2) :: st) I J Q := rS f64_14 rfl
theorem x64_16 : Rn S 64 16 [v0, v1, v2, v3, v4, v5, v6] [.int a] I J Q = Q (some (.int a)) I J := rR f64_16 rfl rfl rfl rfl rfl
theorem x64_17 : Rn S 64 17 [.ref q, v1, v2, v3, v4, v5, v6] st I J Q = Rn S 64 18 [.ref q, v1, v2, v3, v4, v5, v6] (.ref q :: st) I J Q := rL f64_17 rfl rfl
theorem x64_18 : Rn S 64 18 [v0, .int a, v2, v3, v4, v5, v6] st I J Q = Rn S 64 19 [v0, .int a, v2, v3, v4, v5, v6] (.int a :: st) I J Q := rL f64_18 rfl rfl
theorem x64_19 : Rn S 64 19 [v0, v1, v2, v3, v4, v5, v6] (.int a0 :: .ref q :: st) I J Q = ((zcls S q = 5 ∧ zcs st ≤ 8) ∧ Rn S 90 0 [.ref q, .int a0, .null, .null, .null] [] I J (fun v I' J' => Rn S 64 22 [v0, v1, v2, v3, v4, v5, v6] (v.toList ++ st) I' J' Q)) := rCV (As := [.int a0]) f64_19 rfl rfl rfl rfl (Nat.le_of_ble_eq_true rfl)
theorem x64_22 : Rn S 64 22 [v0, v1, v2, v3, v4, v5, v6] (.int a :: st) I J Q = Rn S 64 23 [v0, zkl v1, .int a, v3, v4, v5, v6] st I J Q := rL f64_22 rfl rfl
theorem x64_23 : Rn S 64 23 [v0, v1, v2, v3, v4, v5, v6] st I J Q = Rn S 64 24 [v0, v1, v2, v3, v4, v5, v6] (.int 0 :: st) I J Q := rS f64_23 rfl
theorem x64_24 : Rn S 64 24 [v0, v1, v2, v3, v4, v5, v6] (.int a :: st) I J Q = Rn S 64 25 [v0, v1, zkl v2, .int a, v4, v5, v6] st I J Q := rL f64_24 rfl rfl
theorem x64_25 : Rn S 64 25 [v0, v1, v2, v3, v4, v5, v6] st I J Q = Rn S 64 27 [v0, v1, v2, v3, v4, v5, v6] (.int 10 :: st) I J Q := rS f64_25 rfl
theorem x64_27 : Rn S 64 27 [v0, v1, v2, v3, v4, v5, v6] (.int a :: st) I J Q = Rn S 64 29 [v0, v1, v2, zkl v3, .int a, v5, v6] st I J Q := rL f64_27 rfl rfl
theorem x64_29 : Rn S 64 29 [v0, v1, v2, v3, v4, v5, v6] st I J Q = Rn S 64 30 [v0, v1, v2, v3, v4, v5, v6] (.int 0 :: st) I J Q := rS f64_29 rfl
theorem x64_30 : Rn S 64 30 [v0, v1, v2, v3, v4, v5, v6] (.int a :: st) I J Q = Rn S 64 32 [v0, v1, v2, v3, zkl v4, .int a, v6] st I J Q := rL f64_30 rfl rfl
theorem h64_32 : Rn S 64 32 [v0, v1, v2, v3, v4, .int a, v6] st I J Q = Rn S 64 34 [v0, v1, v2, v3, v4, .int a, v6] (.int a :: st) I J Q := rL f64_32 rfl rfl
theorem x64_34 : Rn S 64 34 [v0, v1, v2, v3, v4, v5, v6] st I J Q = Rn S 64 36 [v0, v1, v2, v3, v4, v5, v6] (.int 24 :: st) I J Q := rS f64_34 rfl
theorem x64_36 : Rn S 64 36 [v0, v1, v2, v3, v4, v5, v6] (.int b :: .int a :: st) I J Q = if a < b then Rn S 64 39 [v0, v1, v2, v3, v4, v5, v6] st I J Q else Rn S 64 68 [v0, v1, v2, v3, v4, v5, v6] st I J Q := rCge f64_36 rfl rfl
theorem x64_39 : Rn S 64 39 [.ref q, v1, v2, v3, v4, v5, v6] st I J Q = Rn S 64 40 [.ref q, v1, v2, v3, v4, v5, v6] (.ref q :: st) I J Q := rL f64_39 rfl rfl
theorem x64_40 : Rn S 64 40 [v0, v1, .int a, v3, v4, v5, v6] st I J Q = Rn S 64 41 [v0, v1, .int a, v3, v4, v5, v6] (.int a :: st) I J Q := rL f64_40 rfl rfl
theorem x64_41 : Rn S 64 41 [v0, v1, v2, v3, v4, .int a, v6] st I J Q = Rn S 64 43 [v0, v1, v2, v3, v4, .int a, v6] (.int a :: st) I J Q := rL f64_41 rfl rfl
theorem x64_43 : Rn S 64 43 [v0, v1, v2, v3, v4, v5, v6] (.int a1 :: .int a0 :: .ref q :: st) I J Q = ((zcls S q = 5 ∧ zcs st ≤ 8) ∧ Rn S 91 0 [.ref q, .int a0, .int a1, .null, .null, .null, .null, .null] [] I J (fun v I' J' => Rn S 64 46 [v0, v1, v2, v3, v4, v5, v6] (v.toList ++ st) I' J' Q)) := rCV (As := [.int a0, .int a1]) f64_43 rfl rfl rfl rfl (Nat.le_of_ble_eq_true rfl)
theorem x64_46 : Rn S 64 46 [v0, v1, v2, v3, v4, v5, v6] (.int a :: st) I J Q = Rn S 64 48 [v0, v1, v2, v3, v4, zkl v5, .int a] st I J Q := rL f64_46 rfl rfl
theorem x64_48 : Rn S 64 48 [v0, v1, v2, v3, v4, v5, .int a] st I J Q = Rn S 64 50 [v0, v1, v2, v3, v4, v5, .int a] (.int a :: st) I J Q := rL f64_48 rfl rfl
theorem x64_50 : Rn S 64 50 [v0, v1, v2, v3, .int a, v5, v6] st I J Q = Rn S 64 52 [v0, v1, v2, v3, .int a, v5, v6] (.int a :: st) I J Q := rL f64_50 rfl rfl
theorem x64_52 : Rn S 64 52 [v0, v1, v2, v3, v4, v5, v6] (.int b :: .int a :: st) I J Q = if a < b then Rn S 64 55 [v0, v1, v2, v3, v4, v5, v6] st I J Q else Rn S 64 62 [v0, v1, v2, v3, v4, v5, v6] st I J Q := rCge f64_52 rfl rfl
theorem x64_55 : Rn S 64 55 [v0, v1, v2, v3, v4, v5, .int a] st I J Q = Rn S 64 57 [v0, v1, v2, v3, v4, v5, .int a] (.int a :: st) I J Q := rL f64_55 rfl rfl
theorem x64_57 : Rn S 64 57 [v0, v1, v2, v3, v4, v5, v6] (.int a :: st) I J Q = Rn S 64 59 [v0, v1, v2, zkl v3, .int a, v5, v6] st I J Q := rL f64_57 rfl rfl
theorem x64_59 : Rn S 64 59 [v0, v1, v2, v3, v4, .int a, v6] st I J Q = Rn S 64 61 [v0, v1, v2, v3, v4, .int a, v6] (.int a :: st) I J Q := rL f64_59 rfl rfl
theorem x64_61 : Rn S 64 61 [v0, v1, v2, v3, v4, v5, v6] (.int a :: st) I J Q = Rn S 64 62 [v0, v1, zkl v2, .int a, v4, v5, v6] st I J Q := rL f64_61 rfl rfl
theorem x64_62 : Rn S 64 62 [v0, v1, v2, v3, v4, .int a, v6] st I J Q = Rn S 64 65 [v0, v1, v2, v3, zkl v4, .int (a + 1), v6] st I J Q := rL f64_62 rfl rfl
theorem x64_65 : Rn S 64 65 [v0, v1, v2, v3, v4, v5, v6] st I J Q = Rn S 64 32 [v0, v1, v2, v3, v4, v5, v6] st I J Q := rB f64_65 rfl rfl rfl
theorem x64_68 : Rn S 64 68 [v0, v1, v2, .int a, v4, v5, v6] st I J Q = Rn S 64 69 [v0, v1, v2, .int a, v4, v5, v6] (.int a :: st) I J Q := rL f64_68 rfl rfl
theorem x64_69 : Rn S 64 69 [v0, v1, v2, v3, v4, v5, v6] [.int a] I J Q = Q (some (.int a)) I J := rR f64_69 rfl rfl rfl rfl rfl
/-! X5.chance: 65 -/
theorem B65 : zB 65 = cX5_chance := rfl
theorem f65_0 : zft 65 0 = some (.iload_n 1, 1) := fet B65 (by decide +kernel) (Or.inr rfl)
theorem f65_1 : zft 65 1 = some (.bipush 17, 2) := fet B65 (by decide +kernel) (Or.inr rfl)
theorem f65_3 : zft 65 3 = some (.invokestatic 72, 3) := fet B65 (by decide +kernel) (Or.inr rfl)
theorem f65_6 : zft 65 6 = some (.ifCond .eq 25, 3) := fet B65 (by decide +kernel) (Or.inr rfl)
theorem f65_9 : zft 65 9 = some (.iload_n 2, 1) := fet B65 (by decide +kernel) (Or.inr rfl)
theorem f65_10 : zft 65 10 = some (.aload_n 0, 1) := fet B65 (by decide +kernel) (Or.inr rfl)
theorem f65_11 : zft 65 11 = some (.getfield 27, 3) := fet B65 (by decide +kernel) (Or.inr rfl)
theorem f65_14 : zft 65 14 = some (.getfield 90, 3) := fet B65 (by decide +kernel) (Or.inr rfl)
theorem f65_17 : zft 65 17 = some (.invokestatic 72, 3) := fet B65 (by decide +kernel) (Or.inr rfl)
theorem f65_20 : zft 65 20 = some (.ifCond .eq 11, 3) := fet B65 (by decide +kernel) (Or.inr rfl)
theorem f65_23 : zft 65 23 = some (.iload_n 3, 1) := fet B65 (by decide +kernel) (Or.inr rfl)
theorem f65_24 : zft 65 24 = some (.iconst 2, 1) := fet B65 (by decide +kernel) (Or.inr rfl)
theorem f65_25 : zft 65 25 = some (.invokestatic 72, 3) := fet B65 (by decide +kernel) (Or.inr rfl)
theorem f65_28 : zft 65 28 = some (.ifCond .ne 7, 3) := fet B65 (by decide +kernel) (Or.inr rfl)
theorem f65_31 : zft 65 31 = some (.ldc2_w 226, 3) := fet B65 (by decide +kernel) (Or.inr rfl)
theorem f65_34 : zft 65 34 = some (.lreturn, 1) := fet B65 (by decide +kernel) (Or.inr rfl)
theorem f65_35 : zft 65 35 = some (.aload_n 0, 1) := fet B65 (by decide +kernel) (Or.inr rfl)
theorem f65_36 : zft 65 36 = some (.iload_n 1, 1) := fet B65 (by decide +kernel) (Or.inr rfl)
theorem f65_37 : zft 65 37 = some (.invokevirtual 228, 3) := fet B65 (by decide +kernel) (Or.inr rfl)
theorem f65_40 : zft 65 40 = some (.aload_n 0, 1) := fet B65 (by decide +kernel) (Or.inr rfl)
theorem f65_41 : zft 65 41 = some (.iload_n 2, 1) := fet B65 (by decide +kernel) (Or.inr rfl)
theorem f65_42 : zft 65 42 = some (.iload_n 3, 1) := fet B65 (by decide +kernel) (Or.inr rfl)
theorem f65_43 : zft 65 43 = some (.invokevirtual 232, 3) := fet B65 (by decide +kernel) (Or.inr rfl)
theorem f65_46 : zft 65 46 = some (.lreturn, 1) := fet B65 (by decide +kernel) (Or.inr rfl)
theorem x65_0 : Rn S 65 0 [v0, .int a, v2, v3] st I J Q = Rn S 65 1 [v0, .int a, v2, v3] (.int a :: st) I J Q := rL f65_0 rfl rfl
theorem x65_1 : Rn S 65 1 [v0, v1, v2, v3] st I J Q = Rn S 65 3 [v0, v1, v2, v3] (.int 17 :: st) I J Q := rS f65_1 rfl
theorem x65_3 : Rn S 65 3 [v0, v1, v2, v3] (.int a1 :: .int a0 :: st) I J Q = (zcs st ≤ 8 ∧ Rn S 81 0 [.int a0, .int a1] [] I J (fun v I' J' => Rn S 65 6 [v0, v1, v2, v3] (v.toList ++ st) I' J' Q)) := rCS (As := [.int a0, .int a1]) f65_3 rfl rfl rfl rfl (Nat.le_of_ble_eq_true rfl)
theorem x65_6 : Rn S 65 6 [v0, v1, v2, v3] (.int a :: st) I J Q = if a = 0 then Rn S 65 31 [v0, v1, v2, v3] st I J Q else Rn S 65 9 [v0, v1, v2, v3] st I J Q := rIeq f65_6 rfl rfl
theorem x65_9 : Rn S 65 9 [v0, v1, .int a, v3] st I J Q = Rn S 65 10 [v0, v1, .int a, v3] (.int a :: st) I J Q := rL f65_9 rfl rfl
theorem x65_10 : Rn S 65 10 [.ref q, v1, v2, v3] st I J Q = Rn S 65 11 [.ref q, v1, v2, v3] (.ref q :: st) I J Q := rL f65_10 rfl rfl
theorem x65_11_0 : Rn (zG xl) 65 11 [v0, v1, v2, v3] (.ref 0 :: st) I J Q = Rn (zG xl) 65 14 [v0, v1, v2, v3] (.ref 8 :: st) I J Q := (rGf f65_11 rfl).trans (tr_and rfl)
theorem x65_14_8 : Rn (zG xl) 65 14 [v0, v1, v2, v3] (.ref 8 :: st) I J Q = Rn (zG xl) 65 17 [v0, v1, v2, v3] (.int (I 8 0) :: st) I J Q := (rGf f65_14 rfl).trans (tr_and rfl)
theorem x65_14_28 : Rn (zG xl) 65 14 [v0, v1, v2, v3] (.ref 28 :: st) I J Q = Rn (zG xl) 65 17 [v0, v1, v2, v3] (.int (I 28 0) :: st) I J Q := (rGf f65_14 rfl).trans (tr_and rfl)
theorem x65_17 : Rn S 65 17 [v0, v1, v2, v3] (.int a1 :: .int a0 :: st) I J Q = (zcs st ≤ 8 ∧ Rn S 81 0 [.int a0, .int a1] [] I J (fun v I' J' => Rn S 65 20 [v0, v1, v2, v3] (v.toList ++ st) I' J' Q)) := rCS (As := [.int a0, .int a1]) f65_17 rfl rfl rfl rfl (Nat.le_of_ble_eq_true rfl)
theorem x65_20 : Rn S 65 20 [v0, v1, v2, v3] (.int a :: st) I J Q = if a = 0 then Rn S 65 31 [v0, v1, v2, v3] st I J Q else Rn S 65 23 [v0, v1, v2, v3] st I J Q := rIeq f65_20 rfl rfl
theorem x65_23 : Rn S 65 23 [v0, v1, v2, .int a] st I J Q = Rn S 65 24 [v0, v1, v2, .int a] (.int a :: st) I J Q := rL f65_23 rfl rfl
theorem x65_24 : Rn S 65 24 [v0, v1, v2, v3] st I J Q = Rn S 65 25 [v0, v1, v2, v3] (.int 2 :: st) I J Q := rS f65_24 rfl
theorem x65_25 : Rn S 65 25 [v0, v1, v2, v3] (.int a1 :: .int a0 :: st) I J Q = (zcs st ≤ 8 ∧ Rn S 81 0 [.int a0, .int a1] [] I J (fun v I' J' => Rn S 65 28 [v0, v1, v2, v3] (v.toList ++ st) I' J' Q)) := rCS (As := [.int a0, .int a1]) f65_25 rfl rfl rfl rfl (Nat.le_of_ble_eq_true rfl)
theorem x65_28 : Rn S 65 28 [v0, v1, v2, v3] (.int a :: st) I J Q = if a = 0 then Rn S 65 31 [v0, v1, v2, v3] st I J Q else Rn S 65 35 [v0, v1, v2, v3] st I J Q := rIne f65_28 rfl rfl
theorem x65_31 : Rn S 65 31 [v0, v1, v2, v3] st I J Q = Rn S 65 34 [v0, v1, v2, v3] (.long (-9223372036854775806) :: st) I J Q := rS f65_31 rfl
theorem x65_34 : Rn S 65 34 [v0, v1, v2, v3] [.long u] I J Q = Q (some (.long u)) I J := rR f65_34 rfl rfl rfl rfl rfl
theorem x65_35 : Rn S 65 35 [.ref q, v1, v2, v3] st I J Q = Rn S 65 36 [.ref q, v1, v2, v3] (.ref q :: st) I J Q := rL f65_35 rfl rfl
theorem x65_36 : Rn S 65 36 [v0, .int a, v2, v3] st I J Q = Rn S 65 37 [v0, .int a, v2, v3] (.int a :: st) I J Q := rL f65_36 rfl rfl
theorem x65_37 : Rn S 65 37 [v0, v1, v2, v3] (.int a0 :: .ref q :: st) I J Q = ((zcls S q = 5 ∧ zcs st ≤ 8) ∧ Rn S 92 0 [.ref q, .int a0, .null, .null, .null, .null, .null] [] I J (fun v I' J' => Rn S 65 40 [v0, v1, v2, v3] (v.toList ++ st) I' J' Q)) := rCV (As := [.int a0]) f65_37 rfl rfl rfl rfl (Nat.le_of_ble_eq_true rfl)
theorem x65_40 : Rn S 65 40 [.ref q, v1, v2, v3] st I J Q = Rn S 65 41 [.ref q, v1, v2, v3] (.ref q :: st) I J Q := rL f65_40 rfl rfl
theorem x65_41 : Rn S 65 41 [v0, v1, .int a, v3] st I J Q = Rn S 65 42 [v0, v1, .int a, v3] (.int a :: st) I J Q := rL f65_41 rfl rfl
theorem x65_42 : Rn S 65 42 [v0, v1, v2, .int a] st I J Q = Rn S 65 43 [v0, v1, v2, .int a] (.int a :: st) I J Q := rL f65_42 rfl rfl
theorem x65_43 : Rn S 65 43 [v0, v1, v2, v3] (.int a1 :: .int a0 :: .ref q :: st) I J Q = ((zcls S q = 5 ∧ zcs st ≤ 8) ∧ Rn S 94 0 [.ref q, .int a0, .int a1, .null, .null, .null, .null, .null, .null] [] I J (fun v I' J' => Rn S 65 46 [v0, v1, v2, v3] (v.toList ++ st) I' J' Q)) := rCV (As := [.int a0, .int a1]) f65_43 rfl rfl rfl rfl (Nat.le_of_ble_eq_true rfl)
theorem x65_46 : Rn S 65 46 [v0, v1, v2, v3] [.long u] I J Q = Q (some (.long u)) I J := rR f65_46 rfl rfl rfl rfl rfl
/-! X5.days: 66 -/
theorem B66 : zB 66 = cX5_days := rfl
theorem f66_0 : zft 66 0 = some (.iload_n 2, 1) := fet B66 (by decide +kernel) (Or.inr rfl)
theorem f66_1 : zft 66 1 = some (.bipush 17, 2) := fet B66 (by decide +kernel) (Or.inr rfl)
theorem f66_3 : zft 66 3 = some (.invokestatic 72, 3) := fet B66 (by decide +kernel) (Or.inr rfl)
theorem f66_6 : zft 66 6 = some (.ifCond .eq 11, 3) := fet B66 (by decide +kernel) (Or.inr rfl)
theorem f66_9 : zft 66 9 = some (.iload_n 3, 1) := fet B66 (by decide +kernel) (Or.inr rfl)
theorem f66_10 : zft 66 10 = some (.iconst 2, 1) := fet B66 (by decide +kernel) (Or.inr rfl)
theorem f66_11 : zft 66 11 = some (.invokestatic 72, 3) := fet B66 (by decide +kernel) (Or.inr rfl)
theorem f66_14 : zft 66 14 = some (.ifCond .ne 6, 3) := fet B66 (by decide +kernel) (Or.inr rfl)
theorem f66_17 : zft 66 17 = some (.bipush (-2), 2) := fet B66 (by decide +kernel) (Or.inr rfl)
theorem f66_19 : zft 66 19 = some (.ireturn, 1) := fet B66 (by decide +kernel) (Or.inr rfl)
theorem f66_20 : zft 66 20 = some (.aload_n 0, 1) := fet B66 (by decide +kernel) (Or.inr rfl)
theorem f66_21 : zft 66 21 = some (.getfield 38, 3) := fet B66 (by decide +kernel) (Or.inr rfl)
theorem f66_24 : zft 66 24 = some (.aload_n 0, 1) := fet B66 (by decide +kernel) (Or.inr rfl)
theorem f66_25 : zft 66 25 = some (.getfield 27, 3) := fet B66 (by decide +kernel) (Or.inr rfl)
theorem f66_28 : zft 66 28 = some (.invokevirtual 197, 3) := fet B66 (by decide +kernel) (Or.inr rfl)
theorem f66_31 : zft 66 31 = some (.aload_n 0, 1) := fet B66 (by decide +kernel) (Or.inr rfl)
theorem f66_32 : zft 66 32 = some (.getfield 38, 3) := fet B66 (by decide +kernel) (Or.inr rfl)
theorem f66_35 : zft 66 35 = some (.iload_n 1, 1) := fet B66 (by decide +kernel) (Or.inr rfl)
theorem f66_36 : zft 66 36 = some (.iload_n 2, 1) := fet B66 (by decide +kernel) (Or.inr rfl)
theorem f66_37 : zft 66 37 = some (.invokevirtual 236, 3) := fet B66 (by decide +kernel) (Or.inr rfl)
theorem f66_40 : zft 66 40 = some (.aload_n 0, 1) := fet B66 (by decide +kernel) (Or.inr rfl)
theorem f66_41 : zft 66 41 = some (.getfield 41, 3) := fet B66 (by decide +kernel) (Or.inr rfl)
theorem f66_44 : zft 66 44 = some (.aload_n 0, 1) := fet B66 (by decide +kernel) (Or.inr rfl)
theorem f66_45 : zft 66 45 = some (.getfield 38, 3) := fet B66 (by decide +kernel) (Or.inr rfl)
theorem f66_48 : zft 66 48 = some (.invokevirtual 123, 3) := fet B66 (by decide +kernel) (Or.inr rfl)
theorem f66_51 : zft 66 51 = some (.iload_n 3, 1) := fet B66 (by decide +kernel) (Or.inr rfl)
theorem f66_52 : zft 66 52 = some (.ifCond .ne 17, 3) := fet B66 (by decide +kernel) (Or.inr rfl)
theorem f66_55 : zft 66 55 = some (.aload_n 0, 1) := fet B66 (by decide +kernel) (Or.inr rfl)
theorem f66_56 : zft 66 56 = some (.getfield 41, 3) := fet B66 (by decide +kernel) (Or.inr rfl)
theorem f66_59 : zft 66 59 = some (.aload_n 0, 1) := fet B66 (by decide +kernel) (Or.inr rfl)
theorem f66_60 : zft 66 60 = some (.getfield 38, 3) := fet B66 (by decide +kernel) (Or.inr rfl)
theorem f66_63 : zft 66 63 = some (.invokevirtual 184, 3) := fet B66 (by decide +kernel) (Or.inr rfl)
theorem f66_66 : zft 66 66 = some (.goto 13, 3) := fet B66 (by decide +kernel) (Or.inr rfl)
theorem f66_69 : zft 66 69 = some (.aload_n 0, 1) := fet B66 (by decide +kernel) (Or.inr rfl)
theorem f66_70 : zft 66 70 = some (.getfield 41, 3) := fet B66 (by decide +kernel) (Or.inr rfl)
theorem f66_73 : zft 66 73 = some (.invokevirtual 188, 3) := fet B66 (by decide +kernel) (Or.inr rfl)
theorem f66_76 : zft 66 76 = some (.invokestatic 179, 3) := fet B66 (by decide +kernel) (Or.inr rfl)
theorem f66_79 : zft 66 79 = some (.ireturn, 1) := fet B66 (by decide +kernel) (Or.inr rfl)
theorem x66_0 : Rn S 66 0 [v0, v1, .int a, v3] st I J Q = Rn S 66 1 [v0, v1, .int a, v3] (.int a :: st) I J Q := rL f66_0 rfl rfl
theorem x66_1 : Rn S 66 1 [v0, v1, v2, v3] st I J Q = Rn S 66 3 [v0, v1, v2, v3] (.int 17 :: st) I J Q := rS f66_1 rfl
theorem x66_3 : Rn S 66 3 [v0, v1, v2, v3] (.int a1 :: .int a0 :: st) I J Q = (zcs st ≤ 8 ∧ Rn S 81 0 [.int a0, .int a1] [] I J (fun v I' J' => Rn S 66 6 [v0, v1, v2, v3] (v.toList ++ st) I' J' Q)) := rCS (As := [.int a0, .int a1]) f66_3 rfl rfl rfl rfl (Nat.le_of_ble_eq_true rfl)
theorem x66_6 : Rn S 66 6 [v0, v1, v2, v3] (.int a :: st) I J Q = if a = 0 then Rn S 66 17 [v0, v1, v2, v3] st I J Q else Rn S 66 9 [v0, v1, v2, v3] st I J Q := rIeq f66_6 rfl rfl
theorem x66_9 : Rn S 66 9 [v0, v1, v2, .int a] st I J Q = Rn S 66 10 [v0, v1, v2, .int a] (.int a :: st) I J Q := rL f66_9 rfl rfl
theorem x66_10 : Rn S 66 10 [v0, v1, v2, v3] st I J Q = Rn S 66 11 [v0, v1, v2, v3] (.int 2 :: st) I J Q := rS f66_10 rfl
theorem x66_11 : Rn S 66 11 [v0, v1, v2, v3] (.int a1 :: .int a0 :: st) I J Q = (zcs st ≤ 8 ∧ Rn S 81 0 [.int a0, .int a1] [] I J (fun v I' J' => Rn S 66 14 [v0, v1, v2, v3] (v.toList ++ st) I' J' Q)) := rCS (As := [.int a0, .int a1]) f66_11 rfl rfl rfl rfl (Nat.le_of_ble_eq_true rfl)
theorem x66_14 : Rn S 66 14 [v0, v1, v2, v3] (.int a :: st) I J Q = if a = 0 then Rn S 66 17 [v0, v1, v2, v3] st I J Q else Rn S 66 20 [v0, v1, v2, v3] st I J Q := rIne f66_14 rfl rfl
theorem x66_17 : Rn S 66 17 [v0, v1, v2, v3] st I J Q = Rn S 66 19 [v0, v1, v2, v3] (.int (-2) :: st) I J Q := rS f66_17 rfl
theorem x66_19 : Rn S 66 19 [v0, v1, v2, v3] [.int a] I J Q = Q (some (.int a)) I J := rR f66_19 rfl rfl rfl rfl rfl
theorem x66_20 : Rn S 66 20 [.ref q, v1, v2, v3] st I J Q = Rn S 66 21 [.ref q, v1, v2, v3] (.ref q :: st) I J Q := rL f66_20 rfl rfl
theorem x66_21_0 : Rn (zG xl) 66 21 [v0, v1, v2, v3] (.ref 0 :: st) I J Q = Rn (zG xl) 66 24 [v0, v1, v2, v3] (.ref 28 :: st) I J Q := (rGf f66_21 rfl).trans (tr_and rfl)
theorem x66_24 : Rn S 66 24 [.ref q, v1, v2, v3] st I J Q = Rn S 66 25 [.ref q, v1, v2, v3] (.ref q :: st) I J Q := rL f66_24 rfl rfl
theorem x66_25_0 : Rn (zG xl) 66 25 [v0, v1, v2, v3] (.ref 0 :: st) I J Q = Rn (zG xl) 66 28 [v0, v1, v2, v3] (.ref 8 :: st) I J Q := (rGf f66_25 rfl).trans (tr_and rfl)
theorem x66_28 : Rn S 66 28 [v0, v1, v2, v3] (.ref q0 :: .ref q :: st) I J Q = ((zcls S q = 1 ∧ zcs st ≤ 8) ∧ Rn S 14 0 [.ref q, .ref q0] [] I J (fun v I' J' => Rn S 66 31 [v0, v1, v2, v3] (v.toList ++ st) I' J' Q)) := rCV (As := [.ref q0]) f66_28 rfl rfl rfl rfl (Nat.le_of_ble_eq_true rfl)
theorem x66_31 : Rn S 66 31 [.ref q, v1, v2, v3] st I J Q = Rn S 66 32 [.ref q, v1, v2, v3] (.ref q :: st) I J Q := rL f66_31 rfl rfl
theorem x66_32_0 : Rn (zG xl) 66 32 [v0, v1, v2, v3] (.ref 0 :: st) I J Q = Rn (zG xl) 66 35 [v0, v1, v2, v3] (.ref 28 :: st) I J Q := (rGf f66_32 rfl).trans (tr_and rfl)
theorem x66_35 : Rn S 66 35 [v0, .int a, v2, v3] st I J Q = Rn S 66 36 [v0, .int a, v2, v3] (.int a :: st) I J Q := rL f66_35 rfl rfl
theorem x66_36 : Rn S 66 36 [v0, v1, .int a, v3] st I J Q = Rn S 66 37 [v0, v1, .int a, v3] (.int a :: st) I J Q := rL f66_36 rfl rfl
theorem x66_37 : Rn S 66 37 [v0, v1, v2, v3] (.int a1 :: .int a0 :: .ref q :: st) I J Q = ((zcls S q = 1 ∧ zcs st ≤ 8) ∧ Rn S 18 0 [.ref q, .int a0, .int a1, .null, .null] [] I J (fun v I' J' => Rn S 66 40 [v0, v1, v2, v3] (v.toList ++ st) I' J' Q)) := rCV (As := [.int a0, .int a1]) f66_37 rfl rfl rfl rfl (Nat.le_of_ble_eq_true rfl)
theorem x66_40 : Rn S 66 40 [.ref q, v1, v2, v3] st I J Q = Rn S 66 41 [.ref q, v1, v2, v3] (.ref q :: st) I J Q := rL f66_40 rfl rfl
theorem x66_41_0 : Rn (zG xl) 66 41 [v0, v1, v2, v3] (.ref 0 :: st) I J Q = Rn (zG xl) 66 44 [v0, v1, v2, v3] (.ref 38 :: st) I J Q := (rGf f66_41 rfl).trans (tr_and rfl)
theorem x66_44 : Rn S 66 44 [.ref q, v1, v2, v3] st I J Q = Rn S 66 45 [.ref q, v1, v2, v3] (.ref q :: st) I J Q := rL f66_44 rfl rfl
theorem x66_45_0 : Rn (zG xl) 66 45 [v0, v1, v2, v3] (.ref 0 :: st) I J Q = Rn (zG xl) 66 48 [v0, v1, v2, v3] (.ref 28 :: st) I J Q := (rGf f66_45 rfl).trans (tr_and rfl)
theorem x66_48 : Rn S 66 48 [v0, v1, v2, v3] (.ref q0 :: .ref q :: st) I J Q = ((zcls S q = 0 ∧ zcs st ≤ 8) ∧ Rn S 1 0 [.ref q, .ref q0, .null, .null] [] I J (fun v I' J' => Rn S 66 51 [v0, v1, v2, v3] (v.toList ++ st) I' J' Q)) := rCV (As := [.ref q0]) f66_48 rfl rfl rfl rfl (Nat.le_of_ble_eq_true rfl)
theorem x66_51 : Rn S 66 51 [v0, v1, v2, .int a] st I J Q = Rn S 66 52 [v0, v1, v2, .int a] (.int a :: st) I J Q := rL f66_51 rfl rfl
theorem x66_52 : Rn S 66 52 [v0, v1, v2, v3] (.int a :: st) I J Q = if a = 0 then Rn S 66 55 [v0, v1, v2, v3] st I J Q else Rn S 66 69 [v0, v1, v2, v3] st I J Q := rIne f66_52 rfl rfl
theorem x66_55 : Rn S 66 55 [.ref q, v1, v2, v3] st I J Q = Rn S 66 56 [.ref q, v1, v2, v3] (.ref q :: st) I J Q := rL f66_55 rfl rfl
theorem x66_56_0 : Rn (zG xl) 66 56 [v0, v1, v2, v3] (.ref 0 :: st) I J Q = Rn (zG xl) 66 59 [v0, v1, v2, v3] (.ref 38 :: st) I J Q := (rGf f66_56 rfl).trans (tr_and rfl)
theorem x66_59 : Rn S 66 59 [.ref q, v1, v2, v3] st I J Q = Rn S 66 60 [.ref q, v1, v2, v3] (.ref q :: st) I J Q := rL f66_59 rfl rfl
theorem x66_60_0 : Rn (zG xl) 66 60 [v0, v1, v2, v3] (.ref 0 :: st) I J Q = Rn (zG xl) 66 63 [v0, v1, v2, v3] (.ref 28 :: st) I J Q := (rGf f66_60 rfl).trans (tr_and rfl)
theorem x66_63 : Rn S 66 63 [v0, v1, v2, v3] (.ref q0 :: .ref q :: st) I J Q = ((zcls S q = 0 ∧ zcs st ≤ 8) ∧ Rn S 8 0 [.ref q, .ref q0, .null, .null] [] I J (fun v I' J' => Rn S 66 66 [v0, v1, v2, v3] (v.toList ++ st) I' J' Q)) := rCV (As := [.ref q0]) f66_63 rfl rfl rfl rfl (Nat.le_of_ble_eq_true rfl)
theorem x66_66 : Rn S 66 66 [v0, v1, v2, v3] st I J Q = Rn S 66 79 [v0, v1, v2, v3] st I J Q := rB f66_66 rfl rfl rfl
theorem x66_69 : Rn S 66 69 [.ref q, v1, v2, v3] st I J Q = Rn S 66 70 [.ref q, v1, v2, v3] (.ref q :: st) I J Q := rL f66_69 rfl rfl
theorem x66_70_0 : Rn (zG xl) 66 70 [v0, v1, v2, v3] (.ref 0 :: st) I J Q = Rn (zG xl) 66 73 [v0, v1, v2, v3] (.ref 38 :: st) I J Q := (rGf f66_70 rfl).trans (tr_and rfl)
theorem x66_73 : Rn S 66 73 [v0, v1, v2, v3] (.ref q :: st) I J Q = ((zcls S q = 0 ∧ zcs st ≤ 8) ∧ Rn S 9 0 [.ref q, .null, .null] [] I J (fun v I' J' => Rn S 66 76 [v0, v1, v2, v3] (v.toList ++ st) I' J' Q)) := rCV (As := []) f66_73 rfl rfl rfl rfl (Nat.le_of_ble_eq_true rfl)
theorem x66_76 : Rn S 66 76 [v0, v1, v2, v3] (.int a0 :: st) I J Q = (zcs st ≤ 8 ∧ Rn S 188 0 [.int a0] [] I J (fun v I' J' => Rn S 66 79 [v0, v1, v2, v3] (v.toList ++ st) I' J' Q)) := rCS (As := [.int a0]) f66_76 rfl rfl rfl rfl (Nat.le_of_ble_eq_true rfl)
theorem x66_79 : Rn S 66 79 [v0, v1, v2, v3] [.int a] I J Q = Q (some (.int a)) I J := rR f66_79 rfl rfl rfl rfl rfl
/-! X5.sheet: 67 -/
theorem B67 : zB 67 = cX5_sheet := rfl
theorem f67_0 : zft 67 0 = some (.iload_n 1, 1) := fet B67 (by decide +kernel) (Or.inr rfl)
theorem f67_1 : zft 67 1 = some (.iconst 4, 1) := fet B67 (by decide +kernel) (Or.inr rfl)
theorem f67_2 : zft 67 2 = some (.invokestatic 72, 3) := fet B67 (by decide +kernel) (Or.inr rfl)
theorem f67_5 : zft 67 5 = some (.ifCond .eq 17, 3) := fet B67 (by decide +kernel) (Or.inr rfl)
theorem f67_8 : zft 67 8 = some (.iload_n 2, 1) := fet B67 (by decide +kernel) (Or.inr rfl)
theorem f67_9 : zft 67 9 = some (.iconst 3, 1) := fet B67 (by decide +kernel) (Or.inr rfl)
theorem f67_10 : zft 67 10 = some (.invokestatic 72, 3) := fet B67 (by decide +kernel) (Or.inr rfl)
theorem f67_13 : zft 67 13 = some (.ifCond .eq 9, 3) := fet B67 (by decide +kernel) (Or.inr rfl)
theorem f67_16 : zft 67 16 = some (.iload_n 3, 1) := fet B67 (by decide +kernel) (Or.inr rfl)
theorem f67_17 : zft 67 17 = some (.bipush 60, 2) := fet B67 (by decide +kernel) (Or.inr rfl)
theorem f67_19 : zft 67 19 = some (.if_icmp .le 6, 3) := fet B67 (by decide +kernel) (Or.inr rfl)
theorem f67_22 : zft 67 22 = some (.bipush (-2), 2) := fet B67 (by decide +kernel) (Or.inr rfl)
theorem f67_24 : zft 67 24 = some (.ireturn, 1) := fet B67 (by decide +kernel) (Or.inr rfl)
theorem f67_25 : zft 67 25 = some (.iload_n 3, 1) := fet B67 (by decide +kernel) (Or.inr rfl)
theorem f67_26 : zft 67 26 = some (.ifCond .ge 9, 3) := fet B67 (by decide +kernel) (Or.inr rfl)
theorem f67_29 : zft 67 29 = some (.aload_n 0, 1) := fet B67 (by decide +kernel) (Or.inr rfl)
theorem f67_30 : zft 67 30 = some (.iconst 5, 1) := fet B67 (by decide +kernel) (Or.inr rfl)
theorem f67_31 : zft 67 31 = some (.invokevirtual 142, 3) := fet B67 (by decide +kernel) (Or.inr rfl)
theorem f67_34 : zft 67 34 = some (.ireturn, 1) := fet B67 (by decide +kernel) (Or.inr rfl)
theorem f67_35 : zft 67 35 = some (.aload_n 0, 1) := fet B67 (by decide +kernel) (Or.inr rfl)
theorem f67_36 : zft 67 36 = some (.getfield 54, 3) := fet B67 (by decide +kernel) (Or.inr rfl)
theorem f67_39 : zft 67 39 = some (.iload_n 1, 1) := fet B67 (by decide +kernel) (Or.inr rfl)
theorem f67_40 : zft 67 40 = some (.aaload, 1) := fet B67 (by decide +kernel) (Or.inr rfl)
theorem f67_41 : zft 67 41 = some (.iload_n 2, 1) := fet B67 (by decide +kernel) (Or.inr rfl)
theorem f67_42 : zft 67 42 = some (.iload_n 3, 1) := fet B67 (by decide +kernel) (Or.inr rfl)
theorem f67_43 : zft 67 43 = some (.invokevirtual 240, 3) := fet B67 (by decide +kernel) (Or.inr rfl)
theorem f67_46 : zft 67 46 = some (.iload_n 3, 1) := fet B67 (by decide +kernel) (Or.inr rfl)
theorem f67_47 : zft 67 47 = some (.ireturn, 1) := fet B67 (by decide +kernel) (Or.inr rfl)
theorem x67_0 : Rn S 67 0 [v0, .int a, v2, v3] st I J Q = Rn S 67 1 [v0, .int a, v2, v3] (.int a :: st) I J Q := rL f67_0 rfl rfl
theorem x67_1 : Rn S 67 1 [v0, v1, v2, v3] st I J Q = Rn S 67 2 [v0, v1, v2, v3] (.int 4 :: st) I J Q := rS f67_1 rfl
theorem x67_2 : Rn S 67 2 [v0, v1, v2, v3] (.int a1 :: .int a0 :: st) I J Q = (zcs st ≤ 8 ∧ Rn S 81 0 [.int a0, .int a1] [] I J (fun v I' J' => Rn S 67 5 [v0, v1, v2, v3] (v.toList ++ st) I' J' Q)) := rCS (As := [.int a0, .int a1]) f67_2 rfl rfl rfl rfl (Nat.le_of_ble_eq_true rfl)
theorem x67_5 : Rn S 67 5 [v0, v1, v2, v3] (.int a :: st) I J Q = if a = 0 then Rn S 67 22 [v0, v1, v2, v3] st I J Q else Rn S 67 8 [v0, v1, v2, v3] st I J Q := rIeq f67_5 rfl rfl
theorem x67_8 : Rn S 67 8 [v0, v1, .int a, v3] st I J Q = Rn S 67 9 [v0, v1, .int a, v3] (.int a :: st) I J Q := rL f67_8 rfl rfl
theorem x67_9 : Rn S 67 9 [v0, v1, v2, v3] st I J Q = Rn S 67 10 [v0, v1, v2, v3] (.int 3 :: st) I J Q := rS f67_9 rfl
theorem x67_10 : Rn S 67 10 [v0, v1, v2, v3] (.int a1 :: .int a0 :: st) I J Q = (zcs st ≤ 8 ∧ Rn S 81 0 [.int a0, .int a1] [] I J (fun v I' J' => Rn S 67 13 [v0, v1, v2, v3] (v.toList ++ st) I' J' Q)) := rCS (As := [.int a0, .int a1]) f67_10 rfl rfl rfl rfl (Nat.le_of_ble_eq_true rfl)
theorem x67_13 : Rn S 67 13 [v0, v1, v2, v3] (.int a :: st) I J Q = if a = 0 then Rn S 67 22 [v0, v1, v2, v3] st I J Q else Rn S 67 16 [v0, v1, v2, v3] st I J Q := rIeq f67_13 rfl rfl
theorem x67_16 : Rn S 67 16 [v0, v1, v2, .int a] st I J Q = Rn S 67 17 [v0, v1, v2, .int a] (.int a :: st) I J Q := rL f67_16 rfl rfl
theorem x67_17 : Rn S 67 17 [v0, v1, v2, v3] st I J Q = Rn S 67 19 [v0, v1, v2, v3] (.int 60 :: st) I J Q := rS f67_17 rfl
theorem x67_19 : Rn S 67 19 [v0, v1, v2, v3] (.int b :: .int a :: st) I J Q = if b < a then Rn S 67 22 [v0, v1, v2, v3] st I J Q else Rn S 67 25 [v0, v1, v2, v3] st I J Q := rCle f67_19 rfl rfl
theorem x67_22 : Rn S 67 22 [v0, v1, v2, v3] st I J Q = Rn S 67 24 [v0, v1, v2, v3] (.int (-2) :: st) I J Q := rS f67_22 rfl
theorem x67_24 : Rn S 67 24 [v0, v1, v2, v3] [.int a] I J Q = Q (some (.int a)) I J := rR f67_24 rfl rfl rfl rfl rfl
theorem x67_25 : Rn S 67 25 [v0, v1, v2, .int a] st I J Q = Rn S 67 26 [v0, v1, v2, .int a] (.int a :: st) I J Q := rL f67_25 rfl rfl
theorem x67_26 : Rn S 67 26 [v0, v1, v2, v3] (.int a :: st) I J Q = if a < 0 then Rn S 67 29 [v0, v1, v2, v3] st I J Q else Rn S 67 35 [v0, v1, v2, v3] st I J Q := rIge f67_26 rfl rfl
theorem x67_29 : Rn S 67 29 [.ref q, v1, v2, v3] st I J Q = Rn S 67 30 [.ref q, v1, v2, v3] (.ref q :: st) I J Q := rL f67_29 rfl rfl
theorem x67_30 : Rn S 67 30 [v0, v1, v2, v3] st I J Q = Rn S 67 31 [v0, v1, v2, v3] (.int 5 :: st) I J Q := rS f67_30 rfl
theorem x67_31 : Rn S 67 31 [v0, v1, v2, v3] (.int a0 :: .ref q :: st) I J Q = ((zcls S q = 5 ∧ zcs st ≤ 8) ∧ Rn S 83 0 [.ref q, .int a0] [] I J (fun v I' J' => Rn S 67 34 [v0, v1, v2, v3] (v.toList ++ st) I' J' Q)) := rCV (As := [.int a0]) f67_31 rfl rfl rfl rfl (Nat.le_of_ble_eq_true rfl)
theorem x67_34 : Rn S 67 34 [v0, v1, v2, v3] [.int a] I J Q = Q (some (.int a)) I J := rR f67_34 rfl rfl rfl rfl rfl
theorem x67_35 : Rn S 67 35 [.ref q, v1, v2, v3] st I J Q = Rn S 67 36 [.ref q, v1, v2, v3] (.ref q :: st) I J Q := rL f67_35 rfl rfl
theorem x67_36_0 : Rn (zG xl) 67 36 [v0, v1, v2, v3] (.ref 0 :: st) I J Q = Rn (zG xl) 67 39 [v0, v1, v2, v3] (.ref 52 :: st) I J Q := (rGf f67_36 rfl).trans (tr_and rfl)
theorem x67_39 : Rn S 67 39 [v0, .int a, v2, v3] st I J Q = Rn S 67 40 [v0, .int a, v2, v3] (.int a :: st) I J Q := rL f67_39 rfl rfl
theorem x67_40 : Rn S 67 40 [v0, v1, v2, v3] (.int a :: .ref q :: st) I J Q = (zar S q a ∧ Rn S 67 41 [v0, v1, v2, v3] (zra S q a.toNatClampNeg :: st) I J Q) := rAal f67_40
theorem x67_41 : Rn S 67 41 [v0, v1, .int a, v3] st I J Q = Rn S 67 42 [v0, v1, .int a, v3] (.int a :: st) I J Q := rL f67_41 rfl rfl
theorem x67_42 : Rn S 67 42 [v0, v1, v2, .int a] st I J Q = Rn S 67 43 [v0, v1, v2, .int a] (.int a :: st) I J Q := rL f67_42 rfl rfl
theorem x67_43 : Rn S 67 43 [v0, v1, v2, v3] (.int a1 :: .int a0 :: .ref q :: st) I J Q = ((zcls S q = 2 ∧ zcs st ≤ 8) ∧ Rn S 23 0 [.ref q, .int a0, .int a1] [] I J (fun v I' J' => Rn S 67 46 [v0, v1, v2, v3] (v.toList ++ st) I' J' Q)) := rCV (As := [.int a0, .int a1]) f67_43 rfl rfl rfl rfl (Nat.le_of_ble_eq_true rfl)
theorem x67_46 : Rn S 67 46 [v0, v1, v2, .int a] st I J Q = Rn S 67 47 [v0, v1, v2, .int a] (.int a :: st) I J Q := rL f67_46 rfl rfl
theorem x67_47 : Rn S 67 47 [v0, v1, v2, v3] [.int a] I J Q = Q (some (.int a)) I J := rR f67_47 rfl rfl rfl rfl rfl
/-! X5.lose: 68 -/
theorem B68 : zB 68 = cX5_lose := rfl
theorem f68_0 : zft 68 0 = some (.iload_n 1, 1) := fet B68 (by decide +kernel) (Or.inr rfl)
theorem f68_1 : zft 68 1 = some (.iconst 4, 1) := fet B68 (by decide +kernel) (Or.inr rfl)
theorem f68_2 : zft 68 2 = some (.invokestatic 72, 3) := fet B68 (by decide +kernel) (Or.inr rfl)
theorem f68_5 : zft 68 5 = some (.ifCond .ne 6, 3) := fet B68 (by decide +kernel) (Or.inr rfl)
theorem f68_8 : zft 68 8 = some (.bipush (-2), 2) := fet B68 (by decide +kernel) (Or.inr rfl)
theorem f68_10 : zft 68 10 = some (.ireturn, 1) := fet B68 (by decide +kernel) (Or.inr rfl)
theorem f68_11 : zft 68 11 = some (.aload_n 0, 1) := fet B68 (by decide +kernel) (Or.inr rfl)
theorem f68_12 : zft 68 12 = some (.getfield 54, 3) := fet B68 (by decide +kernel) (Or.inr rfl)
theorem f68_15 : zft 68 15 = some (.iload_n 1, 1) := fet B68 (by decide +kernel) (Or.inr rfl)
theorem f68_16 : zft 68 16 = some (.aaload, 1) := fet B68 (by decide +kernel) (Or.inr rfl)
theorem f68_17 : zft 68 17 = some (.getfield 138, 3) := fet B68 (by decide +kernel) (Or.inr rfl)
theorem f68_20 : zft 68 20 = some (.ifCond .eq 9, 3) := fet B68 (by decide +kernel) (Or.inr rfl)
theorem f68_23 : zft 68 23 = some (.aload_n 0, 1) := fet B68 (by decide +kernel) (Or.inr rfl)
theorem f68_24 : zft 68 24 = some (.iconst 1, 1) := fet B68 (by decide +kernel) (Or.inr rfl)
theorem f68_25 : zft 68 25 = some (.invokevirtual 142, 3) := fet B68 (by decide +kernel) (Or.inr rfl)
theorem f68_28 : zft 68 28 = some (.ireturn, 1) := fet B68 (by decide +kernel) (Or.inr rfl)
theorem f68_29 : zft 68 29 = some (.aload_n 0, 1) := fet B68 (by decide +kernel) (Or.inr rfl)
theorem f68_30 : zft 68 30 = some (.getfield 54, 3) := fet B68 (by decide +kernel) (Or.inr rfl)
theorem f68_33 : zft 68 33 = some (.iload_n 1, 1) := fet B68 (by decide +kernel) (Or.inr rfl)
theorem f68_34 : zft 68 34 = some (.aaload, 1) := fet B68 (by decide +kernel) (Or.inr rfl)
theorem f68_35 : zft 68 35 = some (.iconst 1, 1) := fet B68 (by decide +kernel) (Or.inr rfl)
theorem f68_36 : zft 68 36 = some (.putfield 138, 3) := fet B68 (by decide +kernel) (Or.inr rfl)
theorem f68_39 : zft 68 39 = some (.aload_n 0, 1) := fet B68 (by decide +kernel) (Or.inr rfl)
theorem f68_40 : zft 68 40 = some (.getfield 54, 3) := fet B68 (by decide +kernel) (Or.inr rfl)
theorem f68_43 : zft 68 43 = some (.iload_n 1, 1) := fet B68 (by decide +kernel) (Or.inr rfl)
theorem f68_44 : zft 68 44 = some (.aaload, 1) := fet B68 (by decide +kernel) (Or.inr rfl)
theorem f68_45 : zft 68 45 = some (.getfield 146, 3) := fet B68 (by decide +kernel) (Or.inr rfl)
theorem f68_48 : zft 68 48 = some (.ireturn, 1) := fet B68 (by decide +kernel) (Or.inr rfl)
theorem x68_0 : Rn S 68 0 [v0, .int a] st I J Q = Rn S 68 1 [v0, .int a] (.int a :: st) I J Q := rL f68_0 rfl rfl
theorem x68_1 : Rn S 68 1 [v0, v1] st I J Q = Rn S 68 2 [v0, v1] (.int 4 :: st) I J Q := rS f68_1 rfl
theorem x68_2 : Rn S 68 2 [v0, v1] (.int a1 :: .int a0 :: st) I J Q = (zcs st ≤ 8 ∧ Rn S 81 0 [.int a0, .int a1] [] I J (fun v I' J' => Rn S 68 5 [v0, v1] (v.toList ++ st) I' J' Q)) := rCS (As := [.int a0, .int a1]) f68_2 rfl rfl rfl rfl (Nat.le_of_ble_eq_true rfl)
theorem x68_5 : Rn S 68 5 [v0, v1] (.int a :: st) I J Q = if a = 0 then Rn S 68 8 [v0, v1] st I J Q else Rn S 68 11 [v0, v1] st I J Q := rIne f68_5 rfl rfl
theorem x68_8 : Rn S 68 8 [v0, v1] st I J Q = Rn S 68 10 [v0, v1] (.int (-2) :: st) I J Q := rS f68_8 rfl
theorem x68_10 : Rn S 68 10 [v0, v1] [.int a] I J Q = Q (some (.int a)) I J := rR f68_10 rfl rfl rfl rfl rfl
theorem x68_11 : Rn S 68 11 [.ref q, v1] st I J Q = Rn S 68 12 [.ref q, v1] (.ref q :: st) I J Q := rL f68_11 rfl rfl
theorem x68_12_0 : Rn (zG xl) 68 12 [v0, v1] (.ref 0 :: st) I J Q = Rn (zG xl) 68 15 [v0, v1] (.ref 52 :: st) I J Q := (rGf f68_12 rfl).trans (tr_and rfl)
theorem x68_15 : Rn S 68 15 [v0, .int a] st I J Q = Rn S 68 16 [v0, .int a] (.int a :: st) I J Q := rL f68_15 rfl rfl
theorem x68_16 : Rn S 68 16 [v0, v1] (.int a :: .ref q :: st) I J Q = (zar S q a ∧ Rn S 68 17 [v0, v1] (zra S q a.toNatClampNeg :: st) I J Q) := rAal f68_16
theorem x68_17_53 : Rn (zG xl) 68 17 [v0, v1] (.ref 53 :: st) I J Q = Rn (zG xl) 68 20 [v0, v1] (.int (I 53 0) :: st) I J Q := (rGf f68_17 rfl).trans (tr_and rfl)
theorem x68_17_55 : Rn (zG xl) 68 17 [v0, v1] (.ref 55 :: st) I J Q = Rn (zG xl) 68 20 [v0, v1] (.int (I 55 0) :: st) I J Q := (rGf f68_17 rfl).trans (tr_and rfl)
theorem x68_17_57 : Rn (zG xl) 68 17 [v0, v1] (.ref 57 :: st) I J Q = Rn (zG xl) 68 20 [v0, v1] (.int (I 57 0) :: st) I J Q := (rGf f68_17 rfl).trans (tr_and rfl)
theorem x68_17_59 : Rn (zG xl) 68 17 [v0, v1] (.ref 59 :: st) I J Q = Rn (zG xl) 68 20 [v0, v1] (.int (I 59 0) :: st) I J Q := (rGf f68_17 rfl).trans (tr_and rfl)
theorem x68_20 : Rn S 68 20 [v0, v1] (.int a :: st) I J Q = if a = 0 then Rn S 68 29 [v0, v1] st I J Q else Rn S 68 23 [v0, v1] st I J Q := rIeq f68_20 rfl rfl
theorem x68_23 : Rn S 68 23 [.ref q, v1] st I J Q = Rn S 68 24 [.ref q, v1] (.ref q :: st) I J Q := rL f68_23 rfl rfl
theorem x68_24 : Rn S 68 24 [v0, v1] st I J Q = Rn S 68 25 [v0, v1] (.int 1 :: st) I J Q := rS f68_24 rfl
theorem x68_25 : Rn S 68 25 [v0, v1] (.int a0 :: .ref q :: st) I J Q = ((zcls S q = 5 ∧ zcs st ≤ 8) ∧ Rn S 83 0 [.ref q, .int a0] [] I J (fun v I' J' => Rn S 68 28 [v0, v1] (v.toList ++ st) I' J' Q)) := rCV (As := [.int a0]) f68_25 rfl rfl rfl rfl (Nat.le_of_ble_eq_true rfl)
theorem x68_28 : Rn S 68 28 [v0, v1] [.int a] I J Q = Q (some (.int a)) I J := rR f68_28 rfl rfl rfl rfl rfl
theorem x68_29 : Rn S 68 29 [.ref q, v1] st I J Q = Rn S 68 30 [.ref q, v1] (.ref q :: st) I J Q := rL f68_29 rfl rfl
theorem x68_30_0 : Rn (zG xl) 68 30 [v0, v1] (.ref 0 :: st) I J Q = Rn (zG xl) 68 33 [v0, v1] (.ref 52 :: st) I J Q := (rGf f68_30 rfl).trans (tr_and rfl)
theorem x68_33 : Rn S 68 33 [v0, .int a] st I J Q = Rn S 68 34 [v0, .int a] (.int a :: st) I J Q := rL f68_33 rfl rfl
theorem x68_34 : Rn S 68 34 [v0, v1] (.int a :: .ref q :: st) I J Q = (zar S q a ∧ Rn S 68 35 [v0, v1] (zra S q a.toNatClampNeg :: st) I J Q) := rAal f68_34
theorem x68_35 : Rn S 68 35 [v0, v1] st I J Q = Rn S 68 36 [v0, v1] (.int 1 :: st) I J Q := rS f68_35 rfl
theorem x68_36_53 : Rn (zG xl) 68 36 [v0, v1] (.int a :: .ref 53 :: st) I J Q = ((a = 0 ∨ a = 1) ∧ Rn (zG xl) 68 39 [v0, v1] st (zr I 53 (upd (I 53) 0 a)) J Q) := (rPf f68_36 rfl).trans (tr_pfz rfl rfl rfl)
theorem x68_36_55 : Rn (zG xl) 68 36 [v0, v1] (.int a :: .ref 55 :: st) I J Q = ((a = 0 ∨ a = 1) ∧ Rn (zG xl) 68 39 [v0, v1] st (zr I 55 (upd (I 55) 0 a)) J Q) := (rPf f68_36 rfl).trans (tr_pfz rfl rfl rfl)
theorem x68_36_57 : Rn (zG xl) 68 36 [v0, v1] (.int a :: .ref 57 :: st) I J Q = ((a = 0 ∨ a = 1) ∧ Rn (zG xl) 68 39 [v0, v1] st (zr I 57 (upd (I 57) 0 a)) J Q) := (rPf f68_36 rfl).trans (tr_pfz rfl rfl rfl)
theorem x68_36_59 : Rn (zG xl) 68 36 [v0, v1] (.int a :: .ref 59 :: st) I J Q = ((a = 0 ∨ a = 1) ∧ Rn (zG xl) 68 39 [v0, v1] st (zr I 59 (upd (I 59) 0 a)) J Q) := (rPf f68_36 rfl).trans (tr_pfz rfl rfl rfl)
theorem x68_39 : Rn S 68 39 [.ref q, v1] st I J Q = Rn S 68 40 [.ref q, v1] (.ref q :: st) I J Q := rL f68_39 rfl rfl
theorem x68_40_0 : Rn (zG xl) 68 40 [v0, v1] (.ref 0 :: st) I J Q = Rn (zG xl) 68 43 [v0, v1] (.ref 52 :: st) I J Q := (rGf f68_40 rfl).trans (tr_and rfl)
theorem x68_43 : Rn S 68 43 [v0, .int a] st I J Q = Rn S 68 44 [v0, .int a] (.int a :: st) I J Q := rL f68_43 rfl rfl
theorem x68_44 : Rn S 68 44 [v0, v1] (.int a :: .ref q :: st) I J Q = (zar S q a ∧ Rn S 68 45 [v0, v1] (zra S q a.toNatClampNeg :: st) I J Q) := rAal f68_44
theorem x68_45_53 : Rn (zG xl) 68 45 [v0, v1] (.ref 53 :: st) I J Q = Rn (zG xl) 68 48 [v0, v1] (.int (I 53 2) :: st) I J Q := (rGf f68_45 rfl).trans (tr_and rfl)
theorem x68_45_55 : Rn (zG xl) 68 45 [v0, v1] (.ref 55 :: st) I J Q = Rn (zG xl) 68 48 [v0, v1] (.int (I 55 2) :: st) I J Q := (rGf f68_45 rfl).trans (tr_and rfl)
theorem x68_45_57 : Rn (zG xl) 68 45 [v0, v1] (.ref 57 :: st) I J Q = Rn (zG xl) 68 48 [v0, v1] (.int (I 57 2) :: st) I J Q := (rGf f68_45 rfl).trans (tr_and rfl)
theorem x68_45_59 : Rn (zG xl) 68 45 [v0, v1] (.ref 59 :: st) I J Q = Rn (zG xl) 68 48 [v0, v1] (.int (I 59 2) :: st) I J Q := (rGf f68_45 rfl).trans (tr_and rfl)
theorem x68_48 : Rn S 68 48 [v0, v1] [.int a] I J Q = Q (some (.int a)) I J := rR f68_48 rfl rfl rfl rfl rfl
/-! X5.lay: 69 -/
theorem B69 : zB 69 = cX5_lay := rfl
theorem f69_0 : zft 69 0 = some (.iload_n 1, 1) := fet B69 (by decide +kernel) (Or.inr rfl)
theorem f69_1 : zft 69 1 = some (.iconst 4, 1) := fet B69 (by decide +kernel) (Or.inr rfl)
theorem f69_2 : zft 69 2 = some (.invokestatic 72, 3) := fet B69 (by decide +kernel) (Or.inr rfl)
theorem f69_5 : zft 69 5 = some (.ifCond .eq 11, 3) := fet B69 (by decide +kernel) (Or.inr rfl)
theorem f69_8 : zft 69 8 = some (.iload_n 2, 1) := fet B69 (by decide +kernel) (Or.inr rfl)
theorem f69_9 : zft 69 9 = some (.iconst 3, 1) := fet B69 (by decide +kernel) (Or.inr rfl)
theorem f69_10 : zft 69 10 = some (.invokestatic 72, 3) := fet B69 (by decide +kernel) (Or.inr rfl)
theorem f69_13 : zft 69 13 = some (.ifCond .ne 6, 3) := fet B69 (by decide +kernel) (Or.inr rfl)
theorem f69_16 : zft 69 16 = some (.bipush (-2), 2) := fet B69 (by decide +kernel) (Or.inr rfl)
theorem f69_18 : zft 69 18 = some (.ireturn, 1) := fet B69 (by decide +kernel) (Or.inr rfl)
theorem f69_19 : zft 69 19 = some (.aload_n 0, 1) := fet B69 (by decide +kernel) (Or.inr rfl)
theorem f69_20 : zft 69 20 = some (.getfield 54, 3) := fet B69 (by decide +kernel) (Or.inr rfl)
theorem f69_23 : zft 69 23 = some (.iload_n 1, 1) := fet B69 (by decide +kernel) (Or.inr rfl)
theorem f69_24 : zft 69 24 = some (.aaload, 1) := fet B69 (by decide +kernel) (Or.inr rfl)
theorem f69_25 : zft 69 25 = some (.iload_n 2, 1) := fet B69 (by decide +kernel) (Or.inr rfl)
theorem f69_26 : zft 69 26 = some (.iload_n 3, 1) := fet B69 (by decide +kernel) (Or.inr rfl)
theorem f69_27 : zft 69 27 = some (.invokevirtual 243, 3) := fet B69 (by decide +kernel) (Or.inr rfl)
theorem f69_30 : zft 69 30 = some (.istore 5, 2) := fet B69 (by decide +kernel) (Or.inr rfl)
theorem f69_32 : zft 69 32 = some (.iload 5, 2) := fet B69 (by decide +kernel) (Or.inr rfl)
theorem f69_34 : zft 69 34 = some (.ifCond .eq 10, 3) := fet B69 (by decide +kernel) (Or.inr rfl)
theorem f69_37 : zft 69 37 = some (.aload_n 0, 1) := fet B69 (by decide +kernel) (Or.inr rfl)
theorem f69_38 : zft 69 38 = some (.iload 5, 2) := fet B69 (by decide +kernel) (Or.inr rfl)
theorem f69_40 : zft 69 40 = some (.invokevirtual 142, 3) := fet B69 (by decide +kernel) (Or.inr rfl)
theorem f69_43 : zft 69 43 = some (.ireturn, 1) := fet B69 (by decide +kernel) (Or.inr rfl)
theorem f69_44 : zft 69 44 = some (.aload_n 0, 1) := fet B69 (by decide +kernel) (Or.inr rfl)
theorem f69_45 : zft 69 45 = some (.getfield 54, 3) := fet B69 (by decide +kernel) (Or.inr rfl)
theorem f69_48 : zft 69 48 = some (.iload_n 1, 1) := fet B69 (by decide +kernel) (Or.inr rfl)
theorem f69_49 : zft 69 49 = some (.aaload, 1) := fet B69 (by decide +kernel) (Or.inr rfl)
theorem f69_50 : zft 69 50 = some (.iload_n 3, 1) := fet B69 (by decide +kernel) (Or.inr rfl)
theorem f69_51 : zft 69 51 = some (.iload 4, 2) := fet B69 (by decide +kernel) (Or.inr rfl)
theorem f69_53 : zft 69 53 = some (.invokevirtual 246, 3) := fet B69 (by decide +kernel) (Or.inr rfl)
theorem f69_56 : zft 69 56 = some (.iconst 1, 1) := fet B69 (by decide +kernel) (Or.inr rfl)
theorem f69_57 : zft 69 57 = some (.ireturn, 1) := fet B69 (by decide +kernel) (Or.inr rfl)
theorem x69_0 : Rn S 69 0 [v0, .int a, v2, v3, v4, v5] st I J Q = Rn S 69 1 [v0, .int a, v2, v3, v4, v5] (.int a :: st) I J Q := rL f69_0 rfl rfl
theorem x69_1 : Rn S 69 1 [v0, v1, v2, v3, v4, v5] st I J Q = Rn S 69 2 [v0, v1, v2, v3, v4, v5] (.int 4 :: st) I J Q := rS f69_1 rfl
theorem x69_2 : Rn S 69 2 [v0, v1, v2, v3, v4, v5] (.int a1 :: .int a0 :: st) I J Q = (zcs st ≤ 8 ∧ Rn S 81 0 [.int a0, .int a1] [] I J (fun v I' J' => Rn S 69 5 [v0, v1, v2, v3, v4, v5] (v.toList ++ st) I' J' Q)) := rCS (As := [.int a0, .int a1]) f69_2 rfl rfl rfl rfl (Nat.le_of_ble_eq_true rfl)
theorem x69_5 : Rn S 69 5 [v0, v1, v2, v3, v4, v5] (.int a :: st) I J Q = if a = 0 then Rn S 69 16 [v0, v1, v2, v3, v4, v5] st I J Q else Rn S 69 8 [v0, v1, v2, v3, v4, v5] st I J Q := rIeq f69_5 rfl rfl
theorem x69_8 : Rn S 69 8 [v0, v1, .int a, v3, v4, v5] st I J Q = Rn S 69 9 [v0, v1, .int a, v3, v4, v5] (.int a :: st) I J Q := rL f69_8 rfl rfl
theorem x69_9 : Rn S 69 9 [v0, v1, v2, v3, v4, v5] st I J Q = Rn S 69 10 [v0, v1, v2, v3, v4, v5] (.int 3 :: st) I J Q := rS f69_9 rfl
theorem x69_10 : Rn S 69 10 [v0, v1, v2, v3, v4, v5] (.int a1 :: .int a0 :: st) I J Q = (zcs st ≤ 8 ∧ Rn S 81 0 [.int a0, .int a1] [] I J (fun v I' J' => Rn S 69 13 [v0, v1, v2, v3, v4, v5] (v.toList ++ st) I' J' Q)) := rCS (As := [.int a0, .int a1]) f69_10 rfl rfl rfl rfl (Nat.le_of_ble_eq_true rfl)
theorem x69_13 : Rn S 69 13 [v0, v1, v2, v3, v4, v5] (.int a :: st) I J Q = if a = 0 then Rn S 69 16 [v0, v1, v2, v3, v4, v5] st I J Q else Rn S 69 19 [v0, v1, v2, v3, v4, v5] st I J Q := rIne f69_13 rfl rfl
theorem x69_16 : Rn S 69 16 [v0, v1, v2, v3, v4, v5] st I J Q = Rn S 69 18 [v0, v1, v2, v3, v4, v5] (.int (-2) :: st) I J Q := rS f69_16 rfl
theorem x69_18 : Rn S 69 18 [v0, v1, v2, v3, v4, v5] [.int a] I J Q = Q (some (.int a)) I J := rR f69_18 rfl rfl rfl rfl rfl
theorem x69_19 : Rn S 69 19 [.ref q, v1, v2, v3, v4, v5] st I J Q = Rn S 69 20 [.ref q, v1, v2, v3, v4, v5] (.ref q :: st) I J Q := rL f69_19 rfl rfl
theorem x69_20_0 : Rn (zG xl) 69 20 [v0, v1, v2, v3, v4, v5] (.ref 0 :: st) I J Q = Rn (zG xl) 69 23 [v0, v1, v2, v3, v4, v5] (.ref 52 :: st) I J Q := (rGf f69_20 rfl).trans (tr_and rfl)
theorem x69_23 : Rn S 69 23 [v0, .int a, v2, v3, v4, v5] st I J Q = Rn S 69 24 [v0, .int a, v2, v3, v4, v5] (.int a :: st) I J Q := rL f69_23 rfl rfl
theorem x69_24 : Rn S 69 24 [v0, v1, v2, v3, v4, v5] (.int a :: .ref q :: st) I J Q = (zar S q a ∧ Rn S 69 25 [v0, v1, v2, v3, v4, v5] (zra S q a.toNatClampNeg :: st) I J Q) := rAal f69_24
theorem x69_25 : Rn S 69 25 [v0, v1, .int a, v3, v4, v5] st I J Q = Rn S 69 26 [v0, v1, .int a, v3, v4, v5] (.int a :: st) I J Q := rL f69_25 rfl rfl
theorem x69_26 : Rn S 69 26 [v0, v1, v2, .int a, v4, v5] st I J Q = Rn S 69 27 [v0, v1, v2, .int a, v4, v5] (.int a :: st) I J Q := rL f69_26 rfl rfl
theorem x69_27 : Rn S 69 27 [v0, v1, v2, v3, v4, v5] (.int a1 :: .int a0 :: .ref q :: st) I J Q = ((zcls S q = 2 ∧ zcs st ≤ 8) ∧ Rn S 24 0 [.ref q, .int a0, .int a1] [] I J (fun v I' J' => Rn S 69 30 [v0, v1, v2, v3, v4, v5] (v.toList ++ st) I' J' Q)) := rCV (As := [.int a0, .int a1]) f69_27 rfl rfl rfl rfl (Nat.le_of_ble_eq_true rfl)
theorem x69_30 : Rn S 69 30 [v0, v1, v2, v3, v4, v5] (.int a :: st) I J Q = Rn S 69 32 [v0, v1, v2, v3, zkl v4, .int a] st I J Q := rL f69_30 rfl rfl
theorem x69_32 : Rn S 69 32 [v0, v1, v2, v3, v4, .int a] st I J Q = Rn S 69 34 [v0, v1, v2, v3, v4, .int a] (.int a :: st) I J Q := rL f69_32 rfl rfl
theorem x69_34 : Rn S 69 34 [v0, v1, v2, v3, v4, v5] (.int a :: st) I J Q = if a = 0 then Rn S 69 44 [v0, v1, v2, v3, v4, v5] st I J Q else Rn S 69 37 [v0, v1, v2, v3, v4, v5] st I J Q := rIeq f69_34 rfl rfl
theorem x69_37 : Rn S 69 37 [.ref q, v1, v2, v3, v4, v5] st I J Q = Rn S 69 38 [.ref q, v1, v2, v3, v4, v5] (.ref q :: st) I J Q := rL f69_37 rfl rfl
theorem x69_38 : Rn S 69 38 [v0, v1, v2, v3, v4, .int a] st I J Q = Rn S 69 40 [v0, v1, v2, v3, v4, .int a] (.int a :: st) I J Q := rL f69_38 rfl rfl
theorem x69_40 : Rn S 69 40 [v0, v1, v2, v3, v4, v5] (.int a0 :: .ref q :: st) I J Q = ((zcls S q = 5 ∧ zcs st ≤ 8) ∧ Rn S 83 0 [.ref q, .int a0] [] I J (fun v I' J' => Rn S 69 43 [v0, v1, v2, v3, v4, v5] (v.toList ++ st) I' J' Q)) := rCV (As := [.int a0]) f69_40 rfl rfl rfl rfl (Nat.le_of_ble_eq_true rfl)
theorem x69_43 : Rn S 69 43 [v0, v1, v2, v3, v4, v5] [.int a] I J Q = Q (some (.int a)) I J := rR f69_43 rfl rfl rfl rfl rfl
theorem x69_44 : Rn S 69 44 [.ref q, v1, v2, v3, v4, v5] st I J Q = Rn S 69 45 [.ref q, v1, v2, v3, v4, v5] (.ref q :: st) I J Q := rL f69_44 rfl rfl
theorem x69_45_0 : Rn (zG xl) 69 45 [v0, v1, v2, v3, v4, v5] (.ref 0 :: st) I J Q = Rn (zG xl) 69 48 [v0, v1, v2, v3, v4, v5] (.ref 52 :: st) I J Q := (rGf f69_45 rfl).trans (tr_and rfl)
theorem x69_48 : Rn S 69 48 [v0, .int a, v2, v3, v4, v5] st I J Q = Rn S 69 49 [v0, .int a, v2, v3, v4, v5] (.int a :: st) I J Q := rL f69_48 rfl rfl
theorem x69_49 : Rn S 69 49 [v0, v1, v2, v3, v4, v5] (.int a :: .ref q :: st) I J Q = (zar S q a ∧ Rn S 69 50 [v0, v1, v2, v3, v4, v5] (zra S q a.toNatClampNeg :: st) I J Q) := rAal f69_49
theorem x69_50 : Rn S 69 50 [v0, v1, v2, .int a, v4, v5] st I J Q = Rn S 69 51 [v0, v1, v2, .int a, v4, v5] (.int a :: st) I J Q := rL f69_50 rfl rfl
theorem x69_51 : Rn S 69 51 [v0, v1, v2, v3, .int a, v5] st I J Q = Rn S 69 53 [v0, v1, v2, v3, .int a, v5] (.int a :: st) I J Q := rL f69_51 rfl rfl
theorem x69_53 : Rn S 69 53 [v0, v1, v2, v3, v4, v5] (.int a1 :: .int a0 :: .ref q :: st) I J Q = ((zcls S q = 2 ∧ zcs st ≤ 8) ∧ Rn S 25 0 [.ref q, .int a0, .int a1] [] I J (fun v I' J' => Rn S 69 56 [v0, v1, v2, v3, v4, v5] (v.toList ++ st) I' J' Q)) := rCV (As := [.int a0, .int a1]) f69_53 rfl rfl rfl rfl (Nat.le_of_ble_eq_true rfl)
theorem x69_56 : Rn S 69 56 [v0, v1, v2, v3, v4, v5] st I J Q = Rn S 69 57 [v0, v1, v2, v3, v4, v5] (.int 1 :: st) I J Q := rS f69_56 rfl
theorem x69_57 : Rn S 69 57 [v0, v1, v2, v3, v4, v5] [.int a] I J Q = Q (some (.int a)) I J := rR f69_57 rfl rfl rfl rfl rfl
/-! X5.get: 70 -/
theorem B70 : zB 70 = cX5_get := rfl
theorem f70_0 : zft 70 0 = some (.iload_n 1, 1) := fet B70 (by decide +kernel) (Or.inr rfl)
theorem f70_1 : zft 70 1 = some (.iconst 4, 1) := fet B70 (by decide +kernel) (Or.inr rfl)
theorem f70_2 : zft 70 2 = some (.invokestatic 72, 3) := fet B70 (by decide +kernel) (Or.inr rfl)
theorem f70_5 : zft 70 5 = some (.ifCond .eq 11, 3) := fet B70 (by decide +kernel) (Or.inr rfl)
theorem f70_8 : zft 70 8 = some (.iload_n 2, 1) := fet B70 (by decide +kernel) (Or.inr rfl)
theorem f70_9 : zft 70 9 = some (.iconst 3, 1) := fet B70 (by decide +kernel) (Or.inr rfl)
theorem f70_10 : zft 70 10 = some (.invokestatic 72, 3) := fet B70 (by decide +kernel) (Or.inr rfl)
theorem f70_13 : zft 70 13 = some (.ifCond .ne 6, 3) := fet B70 (by decide +kernel) (Or.inr rfl)
theorem f70_16 : zft 70 16 = some (.ldc 249, 2) := fet B70 (by decide +kernel) (Or.inr rfl)
theorem f70_18 : zft 70 18 = some (.ireturn, 1) := fet B70 (by decide +kernel) (Or.inr rfl)
theorem f70_19 : zft 70 19 = some (.aload_n 0, 1) := fet B70 (by decide +kernel) (Or.inr rfl)
theorem f70_20 : zft 70 20 = some (.getfield 54, 3) := fet B70 (by decide +kernel) (Or.inr rfl)
theorem f70_23 : zft 70 23 = some (.iload_n 1, 1) := fet B70 (by decide +kernel) (Or.inr rfl)
theorem f70_24 : zft 70 24 = some (.aaload, 1) := fet B70 (by decide +kernel) (Or.inr rfl)
theorem f70_25 : zft 70 25 = some (.iload_n 2, 1) := fet B70 (by decide +kernel) (Or.inr rfl)
theorem f70_26 : zft 70 26 = some (.iload_n 3, 1) := fet B70 (by decide +kernel) (Or.inr rfl)
theorem f70_27 : zft 70 27 = some (.invokevirtual 243, 3) := fet B70 (by decide +kernel) (Or.inr rfl)
theorem f70_30 : zft 70 30 = some (.istore 4, 2) := fet B70 (by decide +kernel) (Or.inr rfl)
theorem f70_32 : zft 70 32 = some (.iload 4, 2) := fet B70 (by decide +kernel) (Or.inr rfl)
theorem f70_34 : zft 70 34 = some (.ifCond .eq 12, 3) := fet B70 (by decide +kernel) (Or.inr rfl)
theorem f70_37 : zft 70 37 = some (.aload_n 0, 1) := fet B70 (by decide +kernel) (Or.inr rfl)
theorem f70_38 : zft 70 38 = some (.iload 4, 2) := fet B70 (by decide +kernel) (Or.inr rfl)
theorem f70_40 : zft 70 40 = some (.putfield 250, 3) := fet B70 (by decide +kernel) (Or.inr rfl)
theorem f70_43 : zft 70 43 = some (.ldc 249, 2) := fet B70 (by decide +kernel) (Or.inr rfl)
theorem f70_45 : zft 70 45 = some (.ireturn, 1) := fet B70 (by decide +kernel) (Or.inr rfl)
theorem f70_46 : zft 70 46 = some (.aload_n 0, 1) := fet B70 (by decide +kernel) (Or.inr rfl)
theorem f70_47 : zft 70 47 = some (.getfield 54, 3) := fet B70 (by decide +kernel) (Or.inr rfl)
theorem f70_50 : zft 70 50 = some (.iload_n 1, 1) := fet B70 (by decide +kernel) (Or.inr rfl)
theorem f70_51 : zft 70 51 = some (.aaload, 1) := fet B70 (by decide +kernel) (Or.inr rfl)
theorem f70_52 : zft 70 52 = some (.getfield 147, 3) := fet B70 (by decide +kernel) (Or.inr rfl)
theorem f70_55 : zft 70 55 = some (.iload_n 3, 1) := fet B70 (by decide +kernel) (Or.inr rfl)
theorem f70_56 : zft 70 56 = some (.iaload, 1) := fet B70 (by decide +kernel) (Or.inr rfl)
theorem f70_57 : zft 70 57 = some (.ireturn, 1) := fet B70 (by decide +kernel) (Or.inr rfl)
theorem x70_0 : Rn S 70 0 [v0, .int a, v2, v3, v4] st I J Q = Rn S 70 1 [v0, .int a, v2, v3, v4] (.int a :: st) I J Q := rL f70_0 rfl rfl
theorem x70_1 : Rn S 70 1 [v0, v1, v2, v3, v4] st I J Q = Rn S 70 2 [v0, v1, v2, v3, v4] (.int 4 :: st) I J Q := rS f70_1 rfl
theorem x70_2 : Rn S 70 2 [v0, v1, v2, v3, v4] (.int a1 :: .int a0 :: st) I J Q = (zcs st ≤ 8 ∧ Rn S 81 0 [.int a0, .int a1] [] I J (fun v I' J' => Rn S 70 5 [v0, v1, v2, v3, v4] (v.toList ++ st) I' J' Q)) := rCS (As := [.int a0, .int a1]) f70_2 rfl rfl rfl rfl (Nat.le_of_ble_eq_true rfl)
theorem x70_5 : Rn S 70 5 [v0, v1, v2, v3, v4] (.int a :: st) I J Q = if a = 0 then Rn S 70 16 [v0, v1, v2, v3, v4] st I J Q else Rn S 70 8 [v0, v1, v2, v3, v4] st I J Q := rIeq f70_5 rfl rfl
theorem x70_8 : Rn S 70 8 [v0, v1, .int a, v3, v4] st I J Q = Rn S 70 9 [v0, v1, .int a, v3, v4] (.int a :: st) I J Q := rL f70_8 rfl rfl
theorem x70_9 : Rn S 70 9 [v0, v1, v2, v3, v4] st I J Q = Rn S 70 10 [v0, v1, v2, v3, v4] (.int 3 :: st) I J Q := rS f70_9 rfl
theorem x70_10 : Rn S 70 10 [v0, v1, v2, v3, v4] (.int a1 :: .int a0 :: st) I J Q = (zcs st ≤ 8 ∧ Rn S 81 0 [.int a0, .int a1] [] I J (fun v I' J' => Rn S 70 13 [v0, v1, v2, v3, v4] (v.toList ++ st) I' J' Q)) := rCS (As := [.int a0, .int a1]) f70_10 rfl rfl rfl rfl (Nat.le_of_ble_eq_true rfl)
theorem x70_13 : Rn S 70 13 [v0, v1, v2, v3, v4] (.int a :: st) I J Q = if a = 0 then Rn S 70 16 [v0, v1, v2, v3, v4] st I J Q else Rn S 70 19 [v0, v1, v2, v3, v4] st I J Q := rIne f70_13 rfl rfl
theorem x70_16 : Rn S 70 16 [v0, v1, v2, v3, v4] st I J Q = Rn S 70 18 [v0, v1, v2, v3, v4] (.int (-2147483648) :: st) I J Q := rS f70_16 rfl
theorem x70_18 : Rn S 70 18 [v0, v1, v2, v3, v4] [.int a] I J Q = Q (some (.int a)) I J := rR f70_18 rfl rfl rfl rfl rfl
theorem x70_19 : Rn S 70 19 [.ref q, v1, v2, v3, v4] st I J Q = Rn S 70 20 [.ref q, v1, v2, v3, v4] (.ref q :: st) I J Q := rL f70_19 rfl rfl
theorem x70_20_0 : Rn (zG xl) 70 20 [v0, v1, v2, v3, v4] (.ref 0 :: st) I J Q = Rn (zG xl) 70 23 [v0, v1, v2, v3, v4] (.ref 52 :: st) I J Q := (rGf f70_20 rfl).trans (tr_and rfl)
theorem x70_23 : Rn S 70 23 [v0, .int a, v2, v3, v4] st I J Q = Rn S 70 24 [v0, .int a, v2, v3, v4] (.int a :: st) I J Q := rL f70_23 rfl rfl
theorem x70_24 : Rn S 70 24 [v0, v1, v2, v3, v4] (.int a :: .ref q :: st) I J Q = (zar S q a ∧ Rn S 70 25 [v0, v1, v2, v3, v4] (zra S q a.toNatClampNeg :: st) I J Q) := rAal f70_24
theorem x70_25 : Rn S 70 25 [v0, v1, .int a, v3, v4] st I J Q = Rn S 70 26 [v0, v1, .int a, v3, v4] (.int a :: st) I J Q := rL f70_25 rfl rfl
theorem x70_26 : Rn S 70 26 [v0, v1, v2, .int a, v4] st I J Q = Rn S 70 27 [v0, v1, v2, .int a, v4] (.int a :: st) I J Q := rL f70_26 rfl rfl
theorem x70_27 : Rn S 70 27 [v0, v1, v2, v3, v4] (.int a1 :: .int a0 :: .ref q :: st) I J Q = ((zcls S q = 2 ∧ zcs st ≤ 8) ∧ Rn S 24 0 [.ref q, .int a0, .int a1] [] I J (fun v I' J' => Rn S 70 30 [v0, v1, v2, v3, v4] (v.toList ++ st) I' J' Q)) := rCV (As := [.int a0, .int a1]) f70_27 rfl rfl rfl rfl (Nat.le_of_ble_eq_true rfl)
theorem x70_30 : Rn S 70 30 [v0, v1, v2, v3, v4] (.int a :: st) I J Q = Rn S 70 32 [v0, v1, v2, zkl v3, .int a] st I J Q := rL f70_30 rfl rfl
theorem x70_32 : Rn S 70 32 [v0, v1, v2, v3, .int a] st I J Q = Rn S 70 34 [v0, v1, v2, v3, .int a] (.int a :: st) I J Q := rL f70_32 rfl rfl
theorem x70_34 : Rn S 70 34 [v0, v1, v2, v3, v4] (.int a :: st) I J Q = if a = 0 then Rn S 70 46 [v0, v1, v2, v3, v4] st I J Q else Rn S 70 37 [v0, v1, v2, v3, v4] st I J Q := rIeq f70_34 rfl rfl
theorem x70_37 : Rn S 70 37 [.ref q, v1, v2, v3, v4] st I J Q = Rn S 70 38 [.ref q, v1, v2, v3, v4] (.ref q :: st) I J Q := rL f70_37 rfl rfl
theorem x70_38 : Rn S 70 38 [v0, v1, v2, v3, .int a] st I J Q = Rn S 70 40 [v0, v1, v2, v3, .int a] (.int a :: st) I J Q := rL f70_38 rfl rfl
theorem x70_40_0 : Rn (zG xl) 70 40 [v0, v1, v2, v3, v4] (.int a :: .ref 0 :: st) I J Q = Rn (zG xl) 70 43 [v0, v1, v2, v3, v4] st (zr I 0 (upd (I 0) 11 a)) J Q := (rPf f70_40 rfl).trans (tr_pf rfl rfl rfl)
theorem x70_43 : Rn S 70 43 [v0, v1, v2, v3, v4] st I J Q = Rn S 70 45 [v0, v1, v2, v3, v4] (.int (-2147483648) :: st) I J Q := rS f70_43 rfl
theorem x70_45 : Rn S 70 45 [v0, v1, v2, v3, v4] [.int a] I J Q = Q (some (.int a)) I J := rR f70_45 rfl rfl rfl rfl rfl
theorem x70_46 : Rn S 70 46 [.ref q, v1, v2, v3, v4] st I J Q = Rn S 70 47 [.ref q, v1, v2, v3, v4] (.ref q :: st) I J Q := rL f70_46 rfl rfl
theorem x70_47_0 : Rn (zG xl) 70 47 [v0, v1, v2, v3, v4] (.ref 0 :: st) I J Q = Rn (zG xl) 70 50 [v0, v1, v2, v3, v4] (.ref 52 :: st) I J Q := (rGf f70_47 rfl).trans (tr_and rfl)
theorem x70_50 : Rn S 70 50 [v0, .int a, v2, v3, v4] st I J Q = Rn S 70 51 [v0, .int a, v2, v3, v4] (.int a :: st) I J Q := rL f70_50 rfl rfl
theorem x70_51 : Rn S 70 51 [v0, v1, v2, v3, v4] (.int a :: .ref q :: st) I J Q = (zar S q a ∧ Rn S 70 52 [v0, v1, v2, v3, v4] (zra S q a.toNatClampNeg :: st) I J Q) := rAal f70_51
theorem x70_52_53 : Rn (zG xl) 70 52 [v0, v1, v2, v3, v4] (.ref 53 :: st) I J Q = Rn (zG xl) 70 55 [v0, v1, v2, v3, v4] (.ref 54 :: st) I J Q := (rGf f70_52 rfl).trans (tr_and rfl)
theorem x70_52_55 : Rn (zG xl) 70 52 [v0, v1, v2, v3, v4] (.ref 55 :: st) I J Q = Rn (zG xl) 70 55 [v0, v1, v2, v3, v4] (.ref 56 :: st) I J Q := (rGf f70_52 rfl).trans (tr_and rfl)
theorem x70_52_57 : Rn (zG xl) 70 52 [v0, v1, v2, v3, v4] (.ref 57 :: st) I J Q = Rn (zG xl) 70 55 [v0, v1, v2, v3, v4] (.ref 58 :: st) I J Q := (rGf f70_52 rfl).trans (tr_and rfl)
theorem x70_52_59 : Rn (zG xl) 70 52 [v0, v1, v2, v3, v4] (.ref 59 :: st) I J Q = Rn (zG xl) 70 55 [v0, v1, v2, v3, v4] (.ref 60 :: st) I J Q := (rGf f70_52 rfl).trans (tr_and rfl)
theorem x70_55 : Rn S 70 55 [v0, v1, v2, .int a, v4] st I J Q = Rn S 70 56 [v0, v1, v2, .int a, v4] (.int a :: st) I J Q := rL f70_55 rfl rfl
theorem x70_56 : Rn S 70 56 [v0, v1, v2, v3, v4] (.int a :: .ref q :: st) I J Q = (zai S q a ∧ Rn S 70 57 [v0, v1, v2, v3, v4] (.int (I q a.toNatClampNeg) :: st) I J Q) := rIal f70_56
theorem x70_57 : Rn S 70 57 [v0, v1, v2, v3, v4] [.int a] I J Q = Q (some (.int a)) I J := rR f70_57 rfl rfl rfl rfl rfl
/-! X5.copy: 71 -/
theorem B71 : zB 71 = cX5_copy := rfl
theorem f71_0 : zft 71 0 = some (.iload_n 1, 1) := fet B71 (by decide +kernel) (Or.inr rfl)
theorem f71_1 : zft 71 1 = some (.iconst 4, 1) := fet B71 (by decide +kernel) (Or.inr rfl)
theorem f71_2 : zft 71 2 = some (.invokestatic 72, 3) := fet B71 (by decide +kernel) (Or.inr rfl)
theorem f71_5 : zft 71 5 = some (.ifCond .eq 11, 3) := fet B71 (by decide +kernel) (Or.inr rfl)
theorem f71_8 : zft 71 8 = some (.iload_n 3, 1) := fet B71 (by decide +kernel) (Or.inr rfl)
theorem f71_9 : zft 71 9 = some (.iconst 4, 1) := fet B71 (by decide +kernel) (Or.inr rfl)
theorem f71_10 : zft 71 10 = some (.invokestatic 72, 3) := fet B71 (by decide +kernel) (Or.inr rfl)
theorem f71_13 : zft 71 13 = some (.ifCond .ne 6, 3) := fet B71 (by decide +kernel) (Or.inr rfl)
theorem f71_16 : zft 71 16 = some (.bipush (-2), 2) := fet B71 (by decide +kernel) (Or.inr rfl)
theorem f71_18 : zft 71 18 = some (.ireturn, 1) := fet B71 (by decide +kernel) (Or.inr rfl)
theorem f71_19 : zft 71 19 = some (.aload_n 0, 1) := fet B71 (by decide +kernel) (Or.inr rfl)
theorem f71_20 : zft 71 20 = some (.getfield 54, 3) := fet B71 (by decide +kernel) (Or.inr rfl)
theorem f71_23 : zft 71 23 = some (.iload_n 1, 1) := fet B71 (by decide +kernel) (Or.inr rfl)
theorem f71_24 : zft 71 24 = some (.aaload, 1) := fet B71 (by decide +kernel) (Or.inr rfl)
theorem f71_25 : zft 71 25 = some (.astore 6, 2) := fet B71 (by decide +kernel) (Or.inr rfl)
theorem f71_27 : zft 71 27 = some (.aload_n 0, 1) := fet B71 (by decide +kernel) (Or.inr rfl)
theorem f71_28 : zft 71 28 = some (.getfield 54, 3) := fet B71 (by decide +kernel) (Or.inr rfl)
theorem f71_31 : zft 71 31 = some (.iload_n 3, 1) := fet B71 (by decide +kernel) (Or.inr rfl)
theorem f71_32 : zft 71 32 = some (.aaload, 1) := fet B71 (by decide +kernel) (Or.inr rfl)
theorem f71_33 : zft 71 33 = some (.astore 7, 2) := fet B71 (by decide +kernel) (Or.inr rfl)
theorem f71_35 : zft 71 35 = some (.aload 6, 2) := fet B71 (by decide +kernel) (Or.inr rfl)
theorem f71_37 : zft 71 37 = some (.getfield 138, 3) := fet B71 (by decide +kernel) (Or.inr rfl)
theorem f71_40 : zft 71 40 = some (.ifCond .ne 11, 3) := fet B71 (by decide +kernel) (Or.inr rfl)
theorem f71_43 : zft 71 43 = some (.aload 7, 2) := fet B71 (by decide +kernel) (Or.inr rfl)
theorem f71_45 : zft 71 45 = some (.getfield 138, 3) := fet B71 (by decide +kernel) (Or.inr rfl)
theorem f71_48 : zft 71 48 = some (.ifCond .eq 9, 3) := fet B71 (by decide +kernel) (Or.inr rfl)
theorem f71_51 : zft 71 51 = some (.aload_n 0, 1) := fet B71 (by decide +kernel) (Or.inr rfl)
theorem f71_52 : zft 71 52 = some (.iconst 1, 1) := fet B71 (by decide +kernel) (Or.inr rfl)
theorem f71_53 : zft 71 53 = some (.invokevirtual 142, 3) := fet B71 (by decide +kernel) (Or.inr rfl)
theorem f71_56 : zft 71 56 = some (.ireturn, 1) := fet B71 (by decide +kernel) (Or.inr rfl)
theorem f71_57 : zft 71 57 = some (.aload 6, 2) := fet B71 (by decide +kernel) (Or.inr rfl)
theorem f71_59 : zft 71 59 = some (.getfield 253, 3) := fet B71 (by decide +kernel) (Or.inr rfl)
theorem f71_62 : zft 71 62 = some (.aload 7, 2) := fet B71 (by decide +kernel) (Or.inr rfl)
theorem f71_64 : zft 71 64 = some (.getfield 253, 3) := fet B71 (by decide +kernel) (Or.inr rfl)
theorem f71_67 : zft 71 67 = some (.if_icmp .eq 9, 3) := fet B71 (by decide +kernel) (Or.inr rfl)
theorem f71_70 : zft 71 70 = some (.aload_n 0, 1) := fet B71 (by decide +kernel) (Or.inr rfl)
theorem f71_71 : zft 71 71 = some (.iconst 4, 1) := fet B71 (by decide +kernel) (Or.inr rfl)
theorem f71_72 : zft 71 72 = some (.invokevirtual 142, 3) := fet B71 (by decide +kernel) (Or.inr rfl)
theorem f71_75 : zft 71 75 = some (.ireturn, 1) := fet B71 (by decide +kernel) (Or.inr rfl)
theorem f71_76 : zft 71 76 = some (.aload 6, 2) := fet B71 (by decide +kernel) (Or.inr rfl)
theorem f71_78 : zft 71 78 = some (.iload_n 2, 1) := fet B71 (by decide +kernel) (Or.inr rfl)
theorem f71_79 : zft 71 79 = some (.iload 5, 2) := fet B71 (by decide +kernel) (Or.inr rfl)
theorem f71_81 : zft 71 81 = some (.invokevirtual 256, 3) := fet B71 (by decide +kernel) (Or.inr rfl)
theorem f71_84 : zft 71 84 = some (.ifCond .eq 15, 3) := fet B71 (by decide +kernel) (Or.inr rfl)
theorem f71_87 : zft 71 87 = some (.aload 7, 2) := fet B71 (by decide +kernel) (Or.inr rfl)
theorem f71_89 : zft 71 89 = some (.iload 4, 2) := fet B71 (by decide +kernel) (Or.inr rfl)
theorem f71_91 : zft 71 91 = some (.iload 5, 2) := fet B71 (by decide +kernel) (Or.inr rfl)
theorem f71_93 : zft 71 93 = some (.invokevirtual 256, 3) := fet B71 (by decide +kernel) (Or.inr rfl)
theorem f71_96 : zft 71 96 = some (.ifCond .ne 9, 3) := fet B71 (by decide +kernel) (Or.inr rfl)
theorem f71_99 : zft 71 99 = some (.aload_n 0, 1) := fet B71 (by decide +kernel) (Or.inr rfl)
theorem f71_100 : zft 71 100 = some (.iconst 2, 1) := fet B71 (by decide +kernel) (Or.inr rfl)
theorem f71_101 : zft 71 101 = some (.invokevirtual 142, 3) := fet B71 (by decide +kernel) (Or.inr rfl)
theorem f71_104 : zft 71 104 = some (.ireturn, 1) := fet B71 (by decide +kernel) (Or.inr rfl)
theorem f71_105 : zft 71 105 = some (.aload 6, 2) := fet B71 (by decide +kernel) (Or.inr rfl)
theorem f71_107 : zft 71 107 = some (.getfield 147, 3) := fet B71 (by decide +kernel) (Or.inr rfl)
theorem f71_110 : zft 71 110 = some (.iload_n 2, 1) := fet B71 (by decide +kernel) (Or.inr rfl)
theorem f71_111 : zft 71 111 = some (.aload 7, 2) := fet B71 (by decide +kernel) (Or.inr rfl)
theorem f71_113 : zft 71 113 = some (.getfield 147, 3) := fet B71 (by decide +kernel) (Or.inr rfl)
theorem f71_116 : zft 71 116 = some (.iload 4, 2) := fet B71 (by decide +kernel) (Or.inr rfl)
theorem f71_118 : zft 71 118 = some (.iload 5, 2) := fet B71 (by decide +kernel) (Or.inr rfl)
theorem f71_120 : zft 71 120 = some (.invokestatic 259, 3) := fet B71 (by decide +kernel) (Or.inr rfl)
theorem f71_123 : zft 71 123 = some (.iconst 1, 1) := fet B71 (by decide +kernel) (Or.inr rfl)
theorem f71_124 : zft 71 124 = some (.ireturn, 1) := fet B71 (by decide +kernel) (Or.inr rfl)
theorem x71_0 : Rn S 71 0 [v0, .int a, v2, v3, v4, v5, v6, v7] st I J Q = Rn S 71 1 [v0, .int a, v2, v3, v4, v5, v6, v7] (.int a :: st) I J Q := rL f71_0 rfl rfl
theorem x71_1 : Rn S 71 1 [v0, v1, v2, v3, v4, v5, v6, v7] st I J Q = Rn S 71 2 [v0, v1, v2, v3, v4, v5, v6, v7] (.int 4 :: st) I J Q := rS f71_1 rfl
theorem x71_2 : Rn S 71 2 [v0, v1, v2, v3, v4, v5, v6, v7] (.int a1 :: .int a0 :: st) I J Q = (zcs st ≤ 8 ∧ Rn S 81 0 [.int a0, .int a1] [] I J (fun v I' J' => Rn S 71 5 [v0, v1, v2, v3, v4, v5, v6, v7] (v.toList ++ st) I' J' Q)) := rCS (As := [.int a0, .int a1]) f71_2 rfl rfl rfl rfl (Nat.le_of_ble_eq_true rfl)
theorem x71_5 : Rn S 71 5 [v0, v1, v2, v3, v4, v5, v6, v7] (.int a :: st) I J Q = if a = 0 then Rn S 71 16 [v0, v1, v2, v3, v4, v5, v6, v7] st I J Q else Rn S 71 8 [v0, v1, v2, v3, v4, v5, v6, v7] st I J Q := rIeq f71_5 rfl rfl
theorem x71_8 : Rn S 71 8 [v0, v1, v2, .int a, v4, v5, v6, v7] st I J Q = Rn S 71 9 [v0, v1, v2, .int a, v4, v5, v6, v7] (.int a :: st) I J Q := rL f71_8 rfl rfl
theorem x71_9 : Rn S 71 9 [v0, v1, v2, v3, v4, v5, v6, v7] st I J Q = Rn S 71 10 [v0, v1, v2, v3, v4, v5, v6, v7] (.int 4 :: st) I J Q := rS f71_9 rfl
theorem x71_10 : Rn S 71 10 [v0, v1, v2, v3, v4, v5, v6, v7] (.int a1 :: .int a0 :: st) I J Q = (zcs st ≤ 8 ∧ Rn S 81 0 [.int a0, .int a1] [] I J (fun v I' J' => Rn S 71 13 [v0, v1, v2, v3, v4, v5, v6, v7] (v.toList ++ st) I' J' Q)) := rCS (As := [.int a0, .int a1]) f71_10 rfl rfl rfl rfl (Nat.le_of_ble_eq_true rfl)
theorem x71_13 : Rn S 71 13 [v0, v1, v2, v3, v4, v5, v6, v7] (.int a :: st) I J Q = if a = 0 then Rn S 71 16 [v0, v1, v2, v3, v4, v5, v6, v7] st I J Q else Rn S 71 19 [v0, v1, v2, v3, v4, v5, v6, v7] st I J Q := rIne f71_13 rfl rfl
theorem x71_16 : Rn S 71 16 [v0, v1, v2, v3, v4, v5, v6, v7] st I J Q = Rn S 71 18 [v0, v1, v2, v3, v4, v5, v6, v7] (.int (-2) :: st) I J Q := rS f71_16 rfl
theorem x71_18 : Rn S 71 18 [v0, v1, v2, v3, v4, v5, v6, v7] [.int a] I J Q = Q (some (.int a)) I J := rR f71_18 rfl rfl rfl rfl rfl
theorem x71_19 : Rn S 71 19 [.ref q, v1, v2, v3, v4, v5, v6, v7] st I J Q = Rn S 71 20 [.ref q, v1, v2, v3, v4, v5, v6, v7] (.ref q :: st) I J Q := rL f71_19 rfl rfl
theorem x71_20_0 : Rn (zG xl) 71 20 [v0, v1, v2, v3, v4, v5, v6, v7] (.ref 0 :: st) I J Q = Rn (zG xl) 71 23 [v0, v1, v2, v3, v4, v5, v6, v7] (.ref 52 :: st) I J Q := (rGf f71_20 rfl).trans (tr_and rfl)
theorem x71_23 : Rn S 71 23 [v0, .int a, v2, v3, v4, v5, v6, v7] st I J Q = Rn S 71 24 [v0, .int a, v2, v3, v4, v5, v6, v7] (.int a :: st) I J Q := rL f71_23 rfl rfl
theorem x71_24 : Rn S 71 24 [v0, v1, v2, v3, v4, v5, v6, v7] (.int a :: .ref q :: st) I J Q = (zar S q a ∧ Rn S 71 25 [v0, v1, v2, v3, v4, v5, v6, v7] (zra S q a.toNatClampNeg :: st) I J Q) := rAal f71_24
theorem x71_25 : Rn S 71 25 [v0, v1, v2, v3, v4, v5, v6, v7] (.ref q :: st) I J Q = Rn S 71 27 [v0, v1, v2, v3, v4, zkl v5, .ref q, v7] st I J Q := rL f71_25 rfl rfl
theorem x71_27 : Rn S 71 27 [.ref q, v1, v2, v3, v4, v5, v6, v7] st I J Q = Rn S 71 28 [.ref q, v1, v2, v3, v4, v5, v6, v7] (.ref q :: st) I J Q := rL f71_27 rfl rfl
theorem x71_28_0 : Rn (zG xl) 71 28 [v0, v1, v2, v3, v4, v5, v6, v7] (.ref 0 :: st) I J Q = Rn (zG xl) 71 31 [v0, v1, v2, v3, v4, v5, v6, v7] (.ref 52 :: st) I J Q := (rGf f71_28 rfl).trans (tr_and rfl)
theorem x71_31 : Rn S 71 31 [v0, v1, v2, .int a, v4, v5, v6, v7] st I J Q = Rn S 71 32 [v0, v1, v2, .int a, v4, v5, v6, v7] (.int a :: st) I J Q := rL f71_31 rfl rfl
theorem x71_32 : Rn S 71 32 [v0, v1, v2, v3, v4, v5, v6, v7] (.int a :: .ref q :: st) I J Q = (zar S q a ∧ Rn S 71 33 [v0, v1, v2, v3, v4, v5, v6, v7] (zra S q a.toNatClampNeg :: st) I J Q) := rAal f71_32
theorem x71_33 : Rn S 71 33 [v0, v1, v2, v3, v4, v5, v6, v7] (.ref q :: st) I J Q = Rn S 71 35 [v0, v1, v2, v3, v4, v5, zkl v6, .ref q] st I J Q := rL f71_33 rfl rfl
theorem x71_35 : Rn S 71 35 [v0, v1, v2, v3, v4, v5, .ref q, v7] st I J Q = Rn S 71 37 [v0, v1, v2, v3, v4, v5, .ref q, v7] (.ref q :: st) I J Q := rL f71_35 rfl rfl
theorem x71_37_53 : Rn (zG xl) 71 37 [v0, v1, v2, v3, v4, v5, v6, v7] (.ref 53 :: st) I J Q = Rn (zG xl) 71 40 [v0, v1, v2, v3, v4, v5, v6, v7] (.int (I 53 0) :: st) I J Q := (rGf f71_37 rfl).trans (tr_and rfl)
theorem x71_37_55 : Rn (zG xl) 71 37 [v0, v1, v2, v3, v4, v5, v6, v7] (.ref 55 :: st) I J Q = Rn (zG xl) 71 40 [v0, v1, v2, v3, v4, v5, v6, v7] (.int (I 55 0) :: st) I J Q := (rGf f71_37 rfl).trans (tr_and rfl)
theorem x71_37_57 : Rn (zG xl) 71 37 [v0, v1, v2, v3, v4, v5, v6, v7] (.ref 57 :: st) I J Q = Rn (zG xl) 71 40 [v0, v1, v2, v3, v4, v5, v6, v7] (.int (I 57 0) :: st) I J Q := (rGf f71_37 rfl).trans (tr_and rfl)
theorem x71_37_59 : Rn (zG xl) 71 37 [v0, v1, v2, v3, v4, v5, v6, v7] (.ref 59 :: st) I J Q = Rn (zG xl) 71 40 [v0, v1, v2, v3, v4, v5, v6, v7] (.int (I 59 0) :: st) I J Q := (rGf f71_37 rfl).trans (tr_and rfl)
theorem x71_40 : Rn S 71 40 [v0, v1, v2, v3, v4, v5, v6, v7] (.int a :: st) I J Q = if a = 0 then Rn S 71 43 [v0, v1, v2, v3, v4, v5, v6, v7] st I J Q else Rn S 71 51 [v0, v1, v2, v3, v4, v5, v6, v7] st I J Q := rIne f71_40 rfl rfl
theorem x71_43 : Rn S 71 43 [v0, v1, v2, v3, v4, v5, v6, .ref q] st I J Q = Rn S 71 45 [v0, v1, v2, v3, v4, v5, v6, .ref q] (.ref q :: st) I J Q := rL f71_43 rfl rfl
theorem x71_45_53 : Rn (zG xl) 71 45 [v0, v1, v2, v3, v4, v5, v6, v7] (.ref 53 :: st) I J Q = Rn (zG xl) 71 48 [v0, v1, v2, v3, v4, v5, v6, v7] (.int (I 53 0) :: st) I J Q := (rGf f71_45 rfl).trans (tr_and rfl)
theorem x71_45_55 : Rn (zG xl) 71 45 [v0, v1, v2, v3, v4, v5, v6, v7] (.ref 55 :: st) I J Q = Rn (zG xl) 71 48 [v0, v1, v2, v3, v4, v5, v6, v7] (.int (I 55 0) :: st) I J Q := (rGf f71_45 rfl).trans (tr_and rfl)
theorem x71_45_57 : Rn (zG xl) 71 45 [v0, v1, v2, v3, v4, v5, v6, v7] (.ref 57 :: st) I J Q = Rn (zG xl) 71 48 [v0, v1, v2, v3, v4, v5, v6, v7] (.int (I 57 0) :: st) I J Q := (rGf f71_45 rfl).trans (tr_and rfl)
theorem x71_45_59 : Rn (zG xl) 71 45 [v0, v1, v2, v3, v4, v5, v6, v7] (.ref 59 :: st) I J Q = Rn (zG xl) 71 48 [v0, v1, v2, v3, v4, v5, v6, v7] (.int (I 59 0) :: st) I J Q := (rGf f71_45 rfl).trans (tr_and rfl)
theorem x71_48 : Rn S 71 48 [v0, v1, v2, v3, v4, v5, v6, v7] (.int a :: st) I J Q = if a = 0 then Rn S 71 57 [v0, v1, v2, v3, v4, v5, v6, v7] st I J Q else Rn S 71 51 [v0, v1, v2, v3, v4, v5, v6, v7] st I J Q := rIeq f71_48 rfl rfl
theorem x71_51 : Rn S 71 51 [.ref q, v1, v2, v3, v4, v5, v6, v7] st I J Q = Rn S 71 52 [.ref q, v1, v2, v3, v4, v5, v6, v7] (.ref q :: st) I J Q := rL f71_51 rfl rfl
theorem x71_52 : Rn S 71 52 [v0, v1, v2, v3, v4, v5, v6, v7] st I J Q = Rn S 71 53 [v0, v1, v2, v3, v4, v5, v6, v7] (.int 1 :: st) I J Q := rS f71_52 rfl
theorem x71_53 : Rn S 71 53 [v0, v1, v2, v3, v4, v5, v6, v7] (.int a0 :: .ref q :: st) I J Q = ((zcls S q = 5 ∧ zcs st ≤ 8) ∧ Rn S 83 0 [.ref q, .int a0] [] I J (fun v I' J' => Rn S 71 56 [v0, v1, v2, v3, v4, v5, v6, v7] (v.toList ++ st) I' J' Q)) := rCV (As := [.int a0]) f71_53 rfl rfl rfl rfl (Nat.le_of_ble_eq_true rfl)
theorem x71_56 : Rn S 71 56 [v0, v1, v2, v3, v4, v5, v6, v7] [.int a] I J Q = Q (some (.int a)) I J := rR f71_56 rfl rfl rfl rfl rfl
theorem x71_57 : Rn S 71 57 [v0, v1, v2, v3, v4, v5, .ref q, v7] st I J Q = Rn S 71 59 [v0, v1, v2, v3, v4, v5, .ref q, v7] (.ref q :: st) I J Q := rL f71_57 rfl rfl
theorem x71_59_53 : Rn (zG xl) 71 59 [v0, v1, v2, v3, v4, v5, v6, v7] (.ref 53 :: st) I J Q = Rn (zG xl) 71 62 [v0, v1, v2, v3, v4, v5, v6, v7] (.int (I 53 1) :: st) I J Q := (rGf f71_59 rfl).trans (tr_and rfl)
theorem x71_59_55 : Rn (zG xl) 71 59 [v0, v1, v2, v3, v4, v5, v6, v7] (.ref 55 :: st) I J Q = Rn (zG xl) 71 62 [v0, v1, v2, v3, v4, v5, v6, v7] (.int (I 55 1) :: st) I J Q := (rGf f71_59 rfl).trans (tr_and rfl)
theorem x71_59_57 : Rn (zG xl) 71 59 [v0, v1, v2, v3, v4, v5, v6, v7] (.ref 57 :: st) I J Q = Rn (zG xl) 71 62 [v0, v1, v2, v3, v4, v5, v6, v7] (.int (I 57 1) :: st) I J Q := (rGf f71_59 rfl).trans (tr_and rfl)
theorem x71_59_59 : Rn (zG xl) 71 59 [v0, v1, v2, v3, v4, v5, v6, v7] (.ref 59 :: st) I J Q = Rn (zG xl) 71 62 [v0, v1, v2, v3, v4, v5, v6, v7] (.int (I 59 1) :: st) I J Q := (rGf f71_59 rfl).trans (tr_and rfl)
theorem x71_62 : Rn S 71 62 [v0, v1, v2, v3, v4, v5, v6, .ref q] st I J Q = Rn S 71 64 [v0, v1, v2, v3, v4, v5, v6, .ref q] (.ref q :: st) I J Q := rL f71_62 rfl rfl
theorem x71_64_53 : Rn (zG xl) 71 64 [v0, v1, v2, v3, v4, v5, v6, v7] (.ref 53 :: st) I J Q = Rn (zG xl) 71 67 [v0, v1, v2, v3, v4, v5, v6, v7] (.int (I 53 1) :: st) I J Q := (rGf f71_64 rfl).trans (tr_and rfl)
theorem x71_64_55 : Rn (zG xl) 71 64 [v0, v1, v2, v3, v4, v5, v6, v7] (.ref 55 :: st) I J Q = Rn (zG xl) 71 67 [v0, v1, v2, v3, v4, v5, v6, v7] (.int (I 55 1) :: st) I J Q := (rGf f71_64 rfl).trans (tr_and rfl)
theorem x71_64_57 : Rn (zG xl) 71 64 [v0, v1, v2, v3, v4, v5, v6, v7] (.ref 57 :: st) I J Q = Rn (zG xl) 71 67 [v0, v1, v2, v3, v4, v5, v6, v7] (.int (I 57 1) :: st) I J Q := (rGf f71_64 rfl).trans (tr_and rfl)
theorem x71_64_59 : Rn (zG xl) 71 64 [v0, v1, v2, v3, v4, v5, v6, v7] (.ref 59 :: st) I J Q = Rn (zG xl) 71 67 [v0, v1, v2, v3, v4, v5, v6, v7] (.int (I 59 1) :: st) I J Q := (rGf f71_64 rfl).trans (tr_and rfl)
theorem x71_67 : Rn S 71 67 [v0, v1, v2, v3, v4, v5, v6, v7] (.int b :: .int a :: st) I J Q = if a = b then Rn S 71 76 [v0, v1, v2, v3, v4, v5, v6, v7] st I J Q else Rn S 71 70 [v0, v1, v2, v3, v4, v5, v6, v7] st I J Q := rCeq f71_67 rfl rfl
theorem x71_70 : Rn S 71 70 [.ref q, v1, v2, v3, v4, v5, v6, v7] st I J Q = Rn S 71 71 [.ref q, v1, v2, v3, v4, v5, v6, v7] (.ref q :: st) I J Q := rL f71_70 rfl rfl
theorem x71_71 : Rn S 71 71 [v0, v1, v2, v3, v4, v5, v6, v7] st I J Q = Rn S 71 72 [v0, v1, v2, v3, v4, v5, v6, v7] (.int 4 :: st) I J Q := rS f71_71 rfl
theorem x71_72 : Rn S 71 72 [v0, v1, v2, v3, v4, v5, v6, v7] (.int a0 :: .ref q :: st) I J Q = ((zcls S q = 5 ∧ zcs st ≤ 8) ∧ Rn S 83 0 [.ref q, .int a0] [] I J (fun v I' J' => Rn S 71 75 [v0, v1, v2, v3, v4, v5, v6, v7] (v.toList ++ st) I' J' Q)) := rCV (As := [.int a0]) f71_72 rfl rfl rfl rfl (Nat.le_of_ble_eq_true rfl)
theorem x71_75 : Rn S 71 75 [v0, v1, v2, v3, v4, v5, v6, v7] [.int a] I J Q = Q (some (.int a)) I J := rR f71_75 rfl rfl rfl rfl rfl
theorem x71_76 : Rn S 71 76 [v0, v1, v2, v3, v4, v5, .ref q, v7] st I J Q = Rn S 71 78 [v0, v1, v2, v3, v4, v5, .ref q, v7] (.ref q :: st) I J Q := rL f71_76 rfl rfl
theorem x71_78 : Rn S 71 78 [v0, v1, .int a, v3, v4, v5, v6, v7] st I J Q = Rn S 71 79 [v0, v1, .int a, v3, v4, v5, v6, v7] (.int a :: st) I J Q := rL f71_78 rfl rfl
theorem x71_79 : Rn S 71 79 [v0, v1, v2, v3, v4, .int a, v6, v7] st I J Q = Rn S 71 81 [v0, v1, v2, v3, v4, .int a, v6, v7] (.int a :: st) I J Q := rL f71_79 rfl rfl
theorem x71_81 : Rn S 71 81 [v0, v1, v2, v3, v4, v5, v6, v7] (.int a1 :: .int a0 :: .ref q :: st) I J Q = ((zcls S q = 2 ∧ zcs st ≤ 8) ∧ Rn S 26 0 [.ref q, .int a0, .int a1] [] I J (fun v I' J' => Rn S 71 84 [v0, v1, v2, v3, v4, v5, v6, v7] (v.toList ++ st) I' J' Q)) := rCV (As := [.int a0, .int a1]) f71_81 rfl rfl rfl rfl (Nat.le_of_ble_eq_true rfl)
theorem x71_84 : Rn S 71 84 [v0, v1, v2, v3, v4, v5, v6, v7] (.int a :: st) I J Q = if a = 0 then Rn S 71 99 [v0, v1, v2, v3, v4, v5, v6, v7] st I J Q else Rn S 71 87 [v0, v1, v2, v3, v4, v5, v6, v7] st I J Q := rIeq f71_84 rfl rfl
theorem x71_87 : Rn S 71 87 [v0, v1, v2, v3, v4, v5, v6, .ref q] st I J Q = Rn S 71 89 [v0, v1, v2, v3, v4, v5, v6, .ref q] (.ref q :: st) I J Q := rL f71_87 rfl rfl
theorem x71_89 : Rn S 71 89 [v0, v1, v2, v3, .int a, v5, v6, v7] st I J Q = Rn S 71 91 [v0, v1, v2, v3, .int a, v5, v6, v7] (.int a :: st) I J Q := rL f71_89 rfl rfl
theorem x71_91 : Rn S 71 91 [v0, v1, v2, v3, v4, .int a, v6, v7] st I J Q = Rn S 71 93 [v0, v1, v2, v3, v4, .int a, v6, v7] (.int a :: st) I J Q := rL f71_91 rfl rfl
theorem x71_93 : Rn S 71 93 [v0, v1, v2, v3, v4, v5, v6, v7] (.int a1 :: .int a0 :: .ref q :: st) I J Q = ((zcls S q = 2 ∧ zcs st ≤ 8) ∧ Rn S 26 0 [.ref q, .int a0, .int a1] [] I J (fun v I' J' => Rn S 71 96 [v0, v1, v2, v3, v4, v5, v6, v7] (v.toList ++ st) I' J' Q)) := rCV (As := [.int a0, .int a1]) f71_93 rfl rfl rfl rfl (Nat.le_of_ble_eq_true rfl)
theorem x71_96 : Rn S 71 96 [v0, v1, v2, v3, v4, v5, v6, v7] (.int a :: st) I J Q = if a = 0 then Rn S 71 99 [v0, v1, v2, v3, v4, v5, v6, v7] st I J Q else Rn S 71 105 [v0, v1, v2, v3, v4, v5, v6, v7] st I J Q := rIne f71_96 rfl rfl
theorem x71_99 : Rn S 71 99 [.ref q, v1, v2, v3, v4, v5, v6, v7] st I J Q = Rn S 71 100 [.ref q, v1, v2, v3, v4, v5, v6, v7] (.ref q :: st) I J Q := rL f71_99 rfl rfl
theorem x71_100 : Rn S 71 100 [v0, v1, v2, v3, v4, v5, v6, v7] st I J Q = Rn S 71 101 [v0, v1, v2, v3, v4, v5, v6, v7] (.int 2 :: st) I J Q := rS f71_100 rfl
theorem x71_101 : Rn S 71 101 [v0, v1, v2, v3, v4, v5, v6, v7] (.int a0 :: .ref q :: st) I J Q = ((zcls S q = 5 ∧ zcs st ≤ 8) ∧ Rn S 83 0 [.ref q, .int a0] [] I J (fun v I' J' => Rn S 71 104 [v0, v1, v2, v3, v4, v5, v6, v7] (v.toList ++ st) I' J' Q)) := rCV (As := [.int a0]) f71_101 rfl rfl rfl rfl (Nat.le_of_ble_eq_true rfl)
theorem x71_104 : Rn S 71 104 [v0, v1, v2, v3, v4, v5, v6, v7] [.int a] I J Q = Q (some (.int a)) I J := rR f71_104 rfl rfl rfl rfl rfl
theorem x71_105 : Rn S 71 105 [v0, v1, v2, v3, v4, v5, .ref q, v7] st I J Q = Rn S 71 107 [v0, v1, v2, v3, v4, v5, .ref q, v7] (.ref q :: st) I J Q := rL f71_105 rfl rfl
theorem x71_107_53 : Rn (zG xl) 71 107 [v0, v1, v2, v3, v4, v5, v6, v7] (.ref 53 :: st) I J Q = Rn (zG xl) 71 110 [v0, v1, v2, v3, v4, v5, v6, v7] (.ref 54 :: st) I J Q := (rGf f71_107 rfl).trans (tr_and rfl)
theorem x71_107_55 : Rn (zG xl) 71 107 [v0, v1, v2, v3, v4, v5, v6, v7] (.ref 55 :: st) I J Q = Rn (zG xl) 71 110 [v0, v1, v2, v3, v4, v5, v6, v7] (.ref 56 :: st) I J Q := (rGf f71_107 rfl).trans (tr_and rfl)
theorem x71_107_57 : Rn (zG xl) 71 107 [v0, v1, v2, v3, v4, v5, v6, v7] (.ref 57 :: st) I J Q = Rn (zG xl) 71 110 [v0, v1, v2, v3, v4, v5, v6, v7] (.ref 58 :: st) I J Q := (rGf f71_107 rfl).trans (tr_and rfl)
theorem x71_107_59 : Rn (zG xl) 71 107 [v0, v1, v2, v3, v4, v5, v6, v7] (.ref 59 :: st) I J Q = Rn (zG xl) 71 110 [v0, v1, v2, v3, v4, v5, v6, v7] (.ref 60 :: st) I J Q := (rGf f71_107 rfl).trans (tr_and rfl)
theorem x71_110 : Rn S 71 110 [v0, v1, .int a, v3, v4, v5, v6, v7] st I J Q = Rn S 71 111 [v0, v1, .int a, v3, v4, v5, v6, v7] (.int a :: st) I J Q := rL f71_110 rfl rfl
theorem x71_111 : Rn S 71 111 [v0, v1, v2, v3, v4, v5, v6, .ref q] st I J Q = Rn S 71 113 [v0, v1, v2, v3, v4, v5, v6, .ref q] (.ref q :: st) I J Q := rL f71_111 rfl rfl
theorem x71_113_53 : Rn (zG xl) 71 113 [v0, v1, v2, v3, v4, v5, v6, v7] (.ref 53 :: st) I J Q = Rn (zG xl) 71 116 [v0, v1, v2, v3, v4, v5, v6, v7] (.ref 54 :: st) I J Q := (rGf f71_113 rfl).trans (tr_and rfl)
theorem x71_113_55 : Rn (zG xl) 71 113 [v0, v1, v2, v3, v4, v5, v6, v7] (.ref 55 :: st) I J Q = Rn (zG xl) 71 116 [v0, v1, v2, v3, v4, v5, v6, v7] (.ref 56 :: st) I J Q := (rGf f71_113 rfl).trans (tr_and rfl)
theorem x71_113_57 : Rn (zG xl) 71 113 [v0, v1, v2, v3, v4, v5, v6, v7] (.ref 57 :: st) I J Q = Rn (zG xl) 71 116 [v0, v1, v2, v3, v4, v5, v6, v7] (.ref 58 :: st) I J Q := (rGf f71_113 rfl).trans (tr_and rfl)
theorem x71_113_59 : Rn (zG xl) 71 113 [v0, v1, v2, v3, v4, v5, v6, v7] (.ref 59 :: st) I J Q = Rn (zG xl) 71 116 [v0, v1, v2, v3, v4, v5, v6, v7] (.ref 60 :: st) I J Q := (rGf f71_113 rfl).trans (tr_and rfl)
theorem x71_116 : Rn S 71 116 [v0, v1, v2, v3, .int a, v5, v6, v7] st I J Q = Rn S 71 118 [v0, v1, v2, v3, .int a, v5, v6, v7] (.int a :: st) I J Q := rL f71_116 rfl rfl
theorem x71_118 : Rn S 71 118 [v0, v1, v2, v3, v4, .int a, v6, v7] st I J Q = Rn S 71 120 [v0, v1, v2, v3, v4, .int a, v6, v7] (.int a :: st) I J Q := rL f71_118 rfl rfl
theorem x71_120 : Rn S 71 120 [v0, v1, v2, v3, v4, v5, v6, v7] (.int c :: .int b :: .ref q :: .int a :: .ref r :: st) I J Q = ((zcs st ≤ 8 ∧ zcp S r q a b c) ∧ Rn S 71 123 [v0, v1, v2, v3, v4, v5, v6, v7] st (zr I q (va_cpy (I r) (I q) a.toNatClampNeg b.toNatClampNeg c.toNatClampNeg)) J Q) := rCp f71_120 rfl rfl ⟨Nat.le_of_ble_eq_true rfl, Nat.le_of_ble_eq_true rfl⟩
theorem x71_123 : Rn S 71 123 [v0, v1, v2, v3, v4, v5, v6, v7] st I J Q = Rn S 71 124 [v0, v1, v2, v3, v4, v5, v6, v7] (.int 1 :: st) I J Q := rS f71_123 rfl
theorem x71_124 : Rn S 71 124 [v0, v1, v2, v3, v4, v5, v6, v7] [.int a] I J Q = Q (some (.int a)) I J := rR f71_124 rfl rfl rfl rfl rfl
/-! X5.write: 72 -/
theorem B72 : zB 72 = cX5_write := rfl
theorem f72_0 : zft 72 0 = some (.iload_n 1, 1) := fet B72 (by decide +kernel) (Or.inr rfl)
theorem f72_1 : zft 72 1 = some (.iconst 4, 1) := fet B72 (by decide +kernel) (Or.inr rfl)
theorem f72_2 : zft 72 2 = some (.invokestatic 72, 3) := fet B72 (by decide +kernel) (Or.inr rfl)
theorem f72_5 : zft 72 5 = some (.ifCond .ne 6, 3) := fet B72 (by decide +kernel) (Or.inr rfl)
theorem f72_8 : zft 72 8 = some (.bipush (-2), 2) := fet B72 (by decide +kernel) (Or.inr rfl)
theorem f72_10 : zft 72 10 = some (.ireturn, 1) := fet B72 (by decide +kernel) (Or.inr rfl)
theorem f72_11 : zft 72 11 = some (.aload_n 0, 1) := fet B72 (by decide +kernel) (Or.inr rfl)
theorem f72_12 : zft 72 12 = some (.getfield 54, 3) := fet B72 (by decide +kernel) (Or.inr rfl)
theorem f72_15 : zft 72 15 = some (.iload_n 1, 1) := fet B72 (by decide +kernel) (Or.inr rfl)
theorem f72_16 : zft 72 16 = some (.aaload, 1) := fet B72 (by decide +kernel) (Or.inr rfl)
theorem f72_17 : zft 72 17 = some (.astore_n 2, 1) := fet B72 (by decide +kernel) (Or.inr rfl)
theorem f72_18 : zft 72 18 = some (.aload_n 2, 1) := fet B72 (by decide +kernel) (Or.inr rfl)
theorem f72_19 : zft 72 19 = some (.getfield 138, 3) := fet B72 (by decide +kernel) (Or.inr rfl)
theorem f72_22 : zft 72 22 = some (.ifCond .eq 9, 3) := fet B72 (by decide +kernel) (Or.inr rfl)
theorem f72_25 : zft 72 25 = some (.aload_n 0, 1) := fet B72 (by decide +kernel) (Or.inr rfl)
theorem f72_26 : zft 72 26 = some (.iconst 1, 1) := fet B72 (by decide +kernel) (Or.inr rfl)
theorem f72_27 : zft 72 27 = some (.invokevirtual 142, 3) := fet B72 (by decide +kernel) (Or.inr rfl)
theorem f72_30 : zft 72 30 = some (.ireturn, 1) := fet B72 (by decide +kernel) (Or.inr rfl)
theorem f72_31 : zft 72 31 = some (.aload_n 2, 1) := fet B72 (by decide +kernel) (Or.inr rfl)
theorem f72_32 : zft 72 32 = some (.getfield 146, 3) := fet B72 (by decide +kernel) (Or.inr rfl)
theorem f72_35 : zft 72 35 = some (.bipush 10, 2) := fet B72 (by decide +kernel) (Or.inr rfl)
theorem f72_37 : zft 72 37 = some (.invokestatic 265, 3) := fet B72 (by decide +kernel) (Or.inr rfl)
theorem f72_40 : zft 72 40 = some (.istore_n 3, 1) := fet B72 (by decide +kernel) (Or.inr rfl)
theorem f72_41 : zft 72 41 = some (.iconst 0, 1) := fet B72 (by decide +kernel) (Or.inr rfl)
theorem f72_42 : zft 72 42 = some (.istore 4, 2) := fet B72 (by decide +kernel) (Or.inr rfl)
theorem f72_44 : zft 72 44 = some (.iload 4, 2) := fet B72 (by decide +kernel) (Or.inr rfl)
theorem f72_46 : zft 72 46 = some (.iload_n 3, 1) := fet B72 (by decide +kernel) (Or.inr rfl)
theorem f72_47 : zft 72 47 = some (.if_icmp .ge 25, 3) := fet B72 (by decide +kernel) (Or.inr rfl)
theorem f72_50 : zft 72 50 = some (.aload_n 2, 1) := fet B72 (by decide +kernel) (Or.inr rfl)
theorem f72_51 : zft 72 51 = some (.iload 4, 2) := fet B72 (by decide +kernel) (Or.inr rfl)
theorem f72_53 : zft 72 53 = some (.aload_n 0, 1) := fet B72 (by decide +kernel) (Or.inr rfl)
theorem f72_54 : zft 72 54 = some (.getfield 34, 3) := fet B72 (by decide +kernel) (Or.inr rfl)
theorem f72_57 : zft 72 57 = some (.getfield 153, 3) := fet B72 (by decide +kernel) (Or.inr rfl)
theorem f72_60 : zft 72 60 = some (.iload 4, 2) := fet B72 (by decide +kernel) (Or.inr rfl)
theorem f72_62 : zft 72 62 = some (.iaload, 1) := fet B72 (by decide +kernel) (Or.inr rfl)
theorem f72_63 : zft 72 63 = some (.invokevirtual 246, 3) := fet B72 (by decide +kernel) (Or.inr rfl)
theorem f72_66 : zft 72 66 = some (.iinc 4 1, 3) := fet B72 (by decide +kernel) (Or.inr rfl)
theorem f72_69 : zft 72 69 = some (.goto (-25), 3) := fet B72 (by decide +kernel) (Or.inr rfl)
theorem f72_72 : zft 72 72 = some (.iload_n 3, 1) := fet B72 (by decide +kernel) (Or.inr rfl)
theorem f72_73 : zft 72 73 = some (.ireturn, 1) := fet B72 (by decide +kernel) (Or.inr rfl)
theorem x72_0 : Rn S 72 0 [v0, .int a, v2, v3, v4] st I J Q = Rn S 72 1 [v0, .int a, v2, v3, v4] (.int a :: st) I J Q := rL f72_0 rfl rfl
theorem x72_1 : Rn S 72 1 [v0, v1, v2, v3, v4] st I J Q = Rn S 72 2 [v0, v1, v2, v3, v4] (.int 4 :: st) I J Q := rS f72_1 rfl
theorem x72_2 : Rn S 72 2 [v0, v1, v2, v3, v4] (.int a1 :: .int a0 :: st) I J Q = (zcs st ≤ 8 ∧ Rn S 81 0 [.int a0, .int a1] [] I J (fun v I' J' => Rn S 72 5 [v0, v1, v2, v3, v4] (v.toList ++ st) I' J' Q)) := rCS (As := [.int a0, .int a1]) f72_2 rfl rfl rfl rfl (Nat.le_of_ble_eq_true rfl)
theorem x72_5 : Rn S 72 5 [v0, v1, v2, v3, v4] (.int a :: st) I J Q = if a = 0 then Rn S 72 8 [v0, v1, v2, v3, v4] st I J Q else Rn S 72 11 [v0, v1, v2, v3, v4] st I J Q := rIne f72_5 rfl rfl
theorem x72_8 : Rn S 72 8 [v0, v1, v2, v3, v4] st I J Q = Rn S 72 10 [v0, v1, v2, v3, v4] (.int (-2) :: st) I J Q := rS f72_8 rfl
theorem x72_10 : Rn S 72 10 [v0, v1, v2, v3, v4] [.int a] I J Q = Q (some (.int a)) I J := rR f72_10 rfl rfl rfl rfl rfl
theorem x72_11 : Rn S 72 11 [.ref q, v1, v2, v3, v4] st I J Q = Rn S 72 12 [.ref q, v1, v2, v3, v4] (.ref q :: st) I J Q := rL f72_11 rfl rfl
theorem x72_12_0 : Rn (zG xl) 72 12 [v0, v1, v2, v3, v4] (.ref 0 :: st) I J Q = Rn (zG xl) 72 15 [v0, v1, v2, v3, v4] (.ref 52 :: st) I J Q := (rGf f72_12 rfl).trans (tr_and rfl)
theorem x72_15 : Rn S 72 15 [v0, .int a, v2, v3, v4] st I J Q = Rn S 72 16 [v0, .int a, v2, v3, v4] (.int a :: st) I J Q := rL f72_15 rfl rfl
theorem x72_16 : Rn S 72 16 [v0, v1, v2, v3, v4] (.int a :: .ref q :: st) I J Q = (zar S q a ∧ Rn S 72 17 [v0, v1, v2, v3, v4] (zra S q a.toNatClampNeg :: st) I J Q) := rAal f72_16
theorem x72_17 : Rn S 72 17 [v0, v1, v2, v3, v4] (.ref q :: st) I J Q = Rn S 72 18 [v0, zkl v1, .ref q, v3, v4] st I J Q := rL f72_17 rfl rfl
theorem x72_18 : Rn S 72 18 [v0, v1, .ref q, v3, v4] st I J Q = Rn S 72 19 [v0, v1, .ref q, v3, v4] (.ref q :: st) I J Q := rL f72_18 rfl rfl
theorem x72_19_53 : Rn (zG xl) 72 19 [v0, v1, v2, v3, v4] (.ref 53 :: st) I J Q = Rn (zG xl) 72 22 [v0, v1, v2, v3, v4] (.int (I 53 0) :: st) I J Q := (rGf f72_19 rfl).trans (tr_and rfl)
theorem x72_19_55 : Rn (zG xl) 72 19 [v0, v1, v2, v3, v4] (.ref 55 :: st) I J Q = Rn (zG xl) 72 22 [v0, v1, v2, v3, v4] (.int (I 55 0) :: st) I J Q := (rGf f72_19 rfl).trans (tr_and rfl)
theorem x72_19_57 : Rn (zG xl) 72 19 [v0, v1, v2, v3, v4] (.ref 57 :: st) I J Q = Rn (zG xl) 72 22 [v0, v1, v2, v3, v4] (.int (I 57 0) :: st) I J Q := (rGf f72_19 rfl).trans (tr_and rfl)
theorem x72_19_59 : Rn (zG xl) 72 19 [v0, v1, v2, v3, v4] (.ref 59 :: st) I J Q = Rn (zG xl) 72 22 [v0, v1, v2, v3, v4] (.int (I 59 0) :: st) I J Q := (rGf f72_19 rfl).trans (tr_and rfl)
theorem x72_22 : Rn S 72 22 [v0, v1, v2, v3, v4] (.int a :: st) I J Q = if a = 0 then Rn S 72 31 [v0, v1, v2, v3, v4] st I J Q else Rn S 72 25 [v0, v1, v2, v3, v4] st I J Q := rIeq f72_22 rfl rfl
theorem x72_25 : Rn S 72 25 [.ref q, v1, v2, v3, v4] st I J Q = Rn S 72 26 [.ref q, v1, v2, v3, v4] (.ref q :: st) I J Q := rL f72_25 rfl rfl
theorem x72_26 : Rn S 72 26 [v0, v1, v2, v3, v4] st I J Q = Rn S 72 27 [v0, v1, v2, v3, v4] (.int 1 :: st) I J Q := rS f72_26 rfl
theorem x72_27 : Rn S 72 27 [v0, v1, v2, v3, v4] (.int a0 :: .ref q :: st) I J Q = ((zcls S q = 5 ∧ zcs st ≤ 8) ∧ Rn S 83 0 [.ref q, .int a0] [] I J (fun v I' J' => Rn S 72 30 [v0, v1, v2, v3, v4] (v.toList ++ st) I' J' Q)) := rCV (As := [.int a0]) f72_27 rfl rfl rfl rfl (Nat.le_of_ble_eq_true rfl)
theorem x72_30 : Rn S 72 30 [v0, v1, v2, v3, v4] [.int a] I J Q = Q (some (.int a)) I J := rR f72_30 rfl rfl rfl rfl rfl
theorem x72_31 : Rn S 72 31 [v0, v1, .ref q, v3, v4] st I J Q = Rn S 72 32 [v0, v1, .ref q, v3, v4] (.ref q :: st) I J Q := rL f72_31 rfl rfl
theorem x72_32_53 : Rn (zG xl) 72 32 [v0, v1, v2, v3, v4] (.ref 53 :: st) I J Q = Rn (zG xl) 72 35 [v0, v1, v2, v3, v4] (.int (I 53 2) :: st) I J Q := (rGf f72_32 rfl).trans (tr_and rfl)
theorem x72_32_55 : Rn (zG xl) 72 32 [v0, v1, v2, v3, v4] (.ref 55 :: st) I J Q = Rn (zG xl) 72 35 [v0, v1, v2, v3, v4] (.int (I 55 2) :: st) I J Q := (rGf f72_32 rfl).trans (tr_and rfl)
theorem x72_32_57 : Rn (zG xl) 72 32 [v0, v1, v2, v3, v4] (.ref 57 :: st) I J Q = Rn (zG xl) 72 35 [v0, v1, v2, v3, v4] (.int (I 57 2) :: st) I J Q := (rGf f72_32 rfl).trans (tr_and rfl)
theorem x72_32_59 : Rn (zG xl) 72 32 [v0, v1, v2, v3, v4] (.ref 59 :: st) I J Q = Rn (zG xl) 72 35 [v0, v1, v2, v3, v4] (.int (I 59 2) :: st) I J Q := (rGf f72_32 rfl).trans (tr_and rfl)
theorem x72_35 : Rn S 72 35 [v0, v1, v2, v3, v4] st I J Q = Rn S 72 37 [v0, v1, v2, v3, v4] (.int 10 :: st) I J Q := rS f72_35 rfl
theorem x72_37 : Rn S 72 37 [v0, v1, v2, v3, v4] (.int b :: .int a :: st) I J Q = (zcs st ≤ 8 ∧ Rn S 72 40 [v0, v1, v2, v3, v4] (.int (if a ≤ b then a else b) :: st) I J Q) := rMn f72_37 rfl rfl ⟨Nat.le_of_ble_eq_true rfl, Nat.le_of_ble_eq_true rfl⟩
theorem x72_40 : Rn S 72 40 [v0, v1, v2, v3, v4] (.int a :: st) I J Q = Rn S 72 41 [v0, v1, zkl v2, .int a, v4] st I J Q := rL f72_40 rfl rfl
theorem x72_41 : Rn S 72 41 [v0, v1, v2, v3, v4] st I J Q = Rn S 72 42 [v0, v1, v2, v3, v4] (.int 0 :: st) I J Q := rS f72_41 rfl
theorem x72_42 : Rn S 72 42 [v0, v1, v2, v3, v4] (.int a :: st) I J Q = Rn S 72 44 [v0, v1, v2, zkl v3, .int a] st I J Q := rL f72_42 rfl rfl
theorem h72_44 : Rn S 72 44 [v0, v1, v2, v3, .int a] st I J Q = Rn S 72 46 [v0, v1, v2, v3, .int a] (.int a :: st) I J Q := rL f72_44 rfl rfl
theorem x72_46 : Rn S 72 46 [v0, v1, v2, .int a, v4] st I J Q = Rn S 72 47 [v0, v1, v2, .int a, v4] (.int a :: st) I J Q := rL f72_46 rfl rfl
theorem x72_47 : Rn S 72 47 [v0, v1, v2, v3, v4] (.int b :: .int a :: st) I J Q = if a < b then Rn S 72 50 [v0, v1, v2, v3, v4] st I J Q else Rn S 72 72 [v0, v1, v2, v3, v4] st I J Q := rCge f72_47 rfl rfl
theorem x72_50 : Rn S 72 50 [v0, v1, .ref q, v3, v4] st I J Q = Rn S 72 51 [v0, v1, .ref q, v3, v4] (.ref q :: st) I J Q := rL f72_50 rfl rfl
theorem x72_51 : Rn S 72 51 [v0, v1, v2, v3, .int a] st I J Q = Rn S 72 53 [v0, v1, v2, v3, .int a] (.int a :: st) I J Q := rL f72_51 rfl rfl
theorem x72_53 : Rn S 72 53 [.ref q, v1, v2, v3, v4] st I J Q = Rn S 72 54 [.ref q, v1, v2, v3, v4] (.ref q :: st) I J Q := rL f72_53 rfl rfl
theorem x72_54_0 : Rn (zG xl) 72 54 [v0, v1, v2, v3, v4] (.ref 0 :: st) I J Q = Rn (zG xl) 72 57 [v0, v1, v2, v3, v4] (.ref 18 :: st) I J Q := (rGf f72_54 rfl).trans (tr_and rfl)
theorem x72_57_18 : Rn (zG xl) 72 57 [v0, v1, v2, v3, v4] (.ref 18 :: st) I J Q = Rn (zG xl) 72 60 [v0, v1, v2, v3, v4] (.ref 20 :: st) I J Q := (rGf f72_57 rfl).trans (tr_and rfl)
theorem x72_57_38 : Rn (zG xl) 72 57 [v0, v1, v2, v3, v4] (.ref 38 :: st) I J Q = Rn (zG xl) 72 60 [v0, v1, v2, v3, v4] (.ref 40 :: st) I J Q := (rGf f72_57 rfl).trans (tr_and rfl)
theorem x72_60 : Rn S 72 60 [v0, v1, v2, v3, .int a] st I J Q = Rn S 72 62 [v0, v1, v2, v3, .int a] (.int a :: st) I J Q := rL f72_60 rfl rfl
theorem x72_62 : Rn S 72 62 [v0, v1, v2, v3, v4] (.int a :: .ref q :: st) I J Q = (zai S q a ∧ Rn S 72 63 [v0, v1, v2, v3, v4] (.int (I q a.toNatClampNeg) :: st) I J Q) := rIal f72_62
theorem x72_63 : Rn S 72 63 [v0, v1, v2, v3, v4] (.int a1 :: .int a0 :: .ref q :: st) I J Q = ((zcls S q = 2 ∧ zcs st ≤ 8) ∧ Rn S 25 0 [.ref q, .int a0, .int a1] [] I J (fun v I' J' => Rn S 72 66 [v0, v1, v2, v3, v4] (v.toList ++ st) I' J' Q)) := rCV (As := [.int a0, .int a1]) f72_63 rfl rfl rfl rfl (Nat.le_of_ble_eq_true rfl)
theorem x72_66 : Rn S 72 66 [v0, v1, v2, v3, .int a] st I J Q = Rn S 72 69 [v0, v1, v2, zkl v3, .int (a + 1)] st I J Q := rL f72_66 rfl rfl
theorem x72_69 : Rn S 72 69 [v0, v1, v2, v3, v4] st I J Q = Rn S 72 44 [v0, v1, v2, v3, v4] st I J Q := rB f72_69 rfl rfl rfl
theorem x72_72 : Rn S 72 72 [v0, v1, v2, .int a, v4] st I J Q = Rn S 72 73 [v0, v1, v2, .int a, v4] (.int a :: st) I J Q := rL f72_72 rfl rfl
theorem x72_73 : Rn S 72 73 [v0, v1, v2, v3, v4] [.int a] I J Q = Q (some (.int a)) I J := rR f72_73 rfl rfl rfl rfl rfl
/-! X5.count: 73 -/
theorem B73 : zB 73 = cX5_count := rfl
theorem f73_0 : zft 73 0 = some (.iload_n 1, 1) := fet B73 (by decide +kernel) (Or.inr rfl)
theorem f73_1 : zft 73 1 = some (.tableswitch 108 0 8 #[51, 59, 67, 75, 75, 75, 87, 95, 103], 51) := fet B73 (by decide +kernel) (Or.inl rfl)
theorem f73_52 : zft 73 52 = some (.aload_n 0, 1) := fet B73 (by decide +kernel) (Or.inr rfl)
theorem f73_53 : zft 73 53 = some (.getfield 27, 3) := fet B73 (by decide +kernel) (Or.inr rfl)
theorem f73_56 : zft 73 56 = some (.getfield 90, 3) := fet B73 (by decide +kernel) (Or.inr rfl)
theorem f73_59 : zft 73 59 = some (.ireturn, 1) := fet B73 (by decide +kernel) (Or.inr rfl)
theorem f73_60 : zft 73 60 = some (.aload_n 0, 1) := fet B73 (by decide +kernel) (Or.inr rfl)
theorem f73_61 : zft 73 61 = some (.getfield 27, 3) := fet B73 (by decide +kernel) (Or.inr rfl)
theorem f73_64 : zft 73 64 = some (.getfield 102, 3) := fet B73 (by decide +kernel) (Or.inr rfl)
theorem f73_67 : zft 73 67 = some (.ireturn, 1) := fet B73 (by decide +kernel) (Or.inr rfl)
theorem f73_68 : zft 73 68 = some (.aload_n 0, 1) := fet B73 (by decide +kernel) (Or.inr rfl)
theorem f73_69 : zft 73 69 = some (.getfield 27, 3) := fet B73 (by decide +kernel) (Or.inr rfl)
theorem f73_72 : zft 73 72 = some (.getfield 111, 3) := fet B73 (by decide +kernel) (Or.inr rfl)
theorem f73_75 : zft 73 75 = some (.ireturn, 1) := fet B73 (by decide +kernel) (Or.inr rfl)
theorem f73_76 : zft 73 76 = some (.aload_n 0, 1) := fet B73 (by decide +kernel) (Or.inr rfl)
theorem f73_77 : zft 73 77 = some (.getfield 20, 3) := fet B73 (by decide +kernel) (Or.inr rfl)
theorem f73_80 : zft 73 80 = some (.iload_n 1, 1) := fet B73 (by decide +kernel) (Or.inr rfl)
theorem f73_81 : zft 73 81 = some (.iconst 3, 1) := fet B73 (by decide +kernel) (Or.inr rfl)
theorem f73_82 : zft 73 82 = some (.isub, 1) := fet B73 (by decide +kernel) (Or.inr rfl)
theorem f73_83 : zft 73 83 = some (.aaload, 1) := fet B73 (by decide +kernel) (Or.inr rfl)
theorem f73_84 : zft 73 84 = some (.getfield 76, 3) := fet B73 (by decide +kernel) (Or.inr rfl)
theorem f73_87 : zft 73 87 = some (.ireturn, 1) := fet B73 (by decide +kernel) (Or.inr rfl)
theorem f73_88 : zft 73 88 = some (.aload_n 0, 1) := fet B73 (by decide +kernel) (Or.inr rfl)
theorem f73_89 : zft 73 89 = some (.getfield 27, 3) := fet B73 (by decide +kernel) (Or.inr rfl)
theorem f73_92 : zft 73 92 = some (.getfield 131, 3) := fet B73 (by decide +kernel) (Or.inr rfl)
theorem f73_95 : zft 73 95 = some (.ireturn, 1) := fet B73 (by decide +kernel) (Or.inr rfl)
theorem f73_96 : zft 73 96 = some (.aload_n 0, 1) := fet B73 (by decide +kernel) (Or.inr rfl)
theorem f73_97 : zft 73 97 = some (.getfield 47, 3) := fet B73 (by decide +kernel) (Or.inr rfl)
theorem f73_100 : zft 73 100 = some (.getfield 206, 3) := fet B73 (by decide +kernel) (Or.inr rfl)
theorem f73_103 : zft 73 103 = some (.ireturn, 1) := fet B73 (by decide +kernel) (Or.inr rfl)
theorem f73_104 : zft 73 104 = some (.aload_n 0, 1) := fet B73 (by decide +kernel) (Or.inr rfl)
theorem f73_105 : zft 73 105 = some (.getfield 250, 3) := fet B73 (by decide +kernel) (Or.inr rfl)
theorem f73_108 : zft 73 108 = some (.ireturn, 1) := fet B73 (by decide +kernel) (Or.inr rfl)
theorem f73_109 : zft 73 109 = some (.bipush (-2), 2) := fet B73 (by decide +kernel) (Or.inr rfl)
theorem f73_111 : zft 73 111 = some (.ireturn, 1) := fet B73 (by decide +kernel) (Or.inr rfl)
theorem x73_0 : Rn S 73 0 [v0, .int a] st I J Q = Rn S 73 1 [v0, .int a] (.int a :: st) I J Q := rL f73_0 rfl rfl
theorem x73_1 : Rn S 73 1 [v0, v1] (.int a :: st) I J Q = Rn S 73 (ztb 109 a [52, 60, 68, 76, 76, 76, 88, 96, 104] 0) [v0, v1] st I J Q := rTb f73_1 rfl (by decide +kernel) (by decide +kernel)
theorem x73_52 : Rn S 73 52 [.ref q, v1] st I J Q = Rn S 73 53 [.ref q, v1] (.ref q :: st) I J Q := rL f73_52 rfl rfl
theorem x73_53_0 : Rn (zG xl) 73 53 [v0, v1] (.ref 0 :: st) I J Q = Rn (zG xl) 73 56 [v0, v1] (.ref 8 :: st) I J Q := (rGf f73_53 rfl).trans (tr_and rfl)
theorem x73_56_8 : Rn (zG xl) 73 56 [v0, v1] (.ref 8 :: st) I J Q = Rn (zG xl) 73 59 [v0, v1] (.int (I 8 0) :: st) I J Q := (rGf f73_56 rfl).trans (tr_and rfl)
theorem x73_56_28 : Rn (zG xl) 73 56 [v0, v1] (.ref 28 :: st) I J Q = Rn (zG xl) 73 59 [v0, v1] (.int (I 28 0) :: st) I J Q := (rGf f73_56 rfl).trans (tr_and rfl)
theorem x73_59 : Rn S 73 59 [v0, v1] [.int a] I J Q = Q (some (.int a)) I J := rR f73_59 rfl rfl rfl rfl rfl
theorem x73_60 : Rn S 73 60 [.ref q, v1] st I J Q = Rn S 73 61 [.ref q, v1] (.ref q :: st) I J Q := rL f73_60 rfl rfl
theorem x73_61_0 : Rn (zG xl) 73 61 [v0, v1] (.ref 0 :: st) I J Q = Rn (zG xl) 73 64 [v0, v1] (.ref 8 :: st) I J Q := (rGf f73_61 rfl).trans (tr_and rfl)
theorem x73_64_8 : Rn (zG xl) 73 64 [v0, v1] (.ref 8 :: st) I J Q = Rn (zG xl) 73 67 [v0, v1] (.int (I 8 3) :: st) I J Q := (rGf f73_64 rfl).trans (tr_and rfl)
theorem x73_64_28 : Rn (zG xl) 73 64 [v0, v1] (.ref 28 :: st) I J Q = Rn (zG xl) 73 67 [v0, v1] (.int (I 28 3) :: st) I J Q := (rGf f73_64 rfl).trans (tr_and rfl)
theorem x73_67 : Rn S 73 67 [v0, v1] [.int a] I J Q = Q (some (.int a)) I J := rR f73_67 rfl rfl rfl rfl rfl
theorem x73_68 : Rn S 73 68 [.ref q, v1] st I J Q = Rn S 73 69 [.ref q, v1] (.ref q :: st) I J Q := rL f73_68 rfl rfl
theorem x73_69_0 : Rn (zG xl) 73 69 [v0, v1] (.ref 0 :: st) I J Q = Rn (zG xl) 73 72 [v0, v1] (.ref 8 :: st) I J Q := (rGf f73_69 rfl).trans (tr_and rfl)
theorem x73_72_8 : Rn (zG xl) 73 72 [v0, v1] (.ref 8 :: st) I J Q = Rn (zG xl) 73 75 [v0, v1] (.int (I 8 6) :: st) I J Q := (rGf f73_72 rfl).trans (tr_and rfl)
theorem x73_72_28 : Rn (zG xl) 73 72 [v0, v1] (.ref 28 :: st) I J Q = Rn (zG xl) 73 75 [v0, v1] (.int (I 28 6) :: st) I J Q := (rGf f73_72 rfl).trans (tr_and rfl)
theorem x73_75 : Rn S 73 75 [v0, v1] [.int a] I J Q = Q (some (.int a)) I J := rR f73_75 rfl rfl rfl rfl rfl
theorem x73_76 : Rn S 73 76 [.ref q, v1] st I J Q = Rn S 73 77 [.ref q, v1] (.ref q :: st) I J Q := rL f73_76 rfl rfl
theorem x73_77_0 : Rn (zG xl) 73 77 [v0, v1] (.ref 0 :: st) I J Q = Rn (zG xl) 73 80 [v0, v1] (.ref 1 :: st) I J Q := (rGf f73_77 rfl).trans (tr_and rfl)
theorem x73_80 : Rn S 73 80 [v0, .int a] st I J Q = Rn S 73 81 [v0, .int a] (.int a :: st) I J Q := rL f73_80 rfl rfl
theorem x73_81 : Rn S 73 81 [v0, v1] st I J Q = Rn S 73 82 [v0, v1] (.int 3 :: st) I J Q := rS f73_81 rfl
theorem x73_82 : Rn S 73 82 [v0, v1] (.int b :: .int a :: st) I J Q = Rn S 73 83 [v0, v1] (.int (a - b) :: st) I J Q := rS f73_82 rfl
theorem x73_83 : Rn S 73 83 [v0, v1] (.int a :: .ref q :: st) I J Q = (zar S q a ∧ Rn S 73 84 [v0, v1] (zra S q a.toNatClampNeg :: st) I J Q) := rAal f73_83
theorem x73_84_2 : Rn (zG xl) 73 84 [v0, v1] (.ref 2 :: st) I J Q = Rn (zG xl) 73 87 [v0, v1] (.int (I 2 3) :: st) I J Q := (rGf f73_84 rfl).trans (tr_and rfl)
theorem x73_84_4 : Rn (zG xl) 73 84 [v0, v1] (.ref 4 :: st) I J Q = Rn (zG xl) 73 87 [v0, v1] (.int (I 4 3) :: st) I J Q := (rGf f73_84 rfl).trans (tr_and rfl)
theorem x73_84_6 : Rn (zG xl) 73 84 [v0, v1] (.ref 6 :: st) I J Q = Rn (zG xl) 73 87 [v0, v1] (.int (I 6 3) :: st) I J Q := (rGf f73_84 rfl).trans (tr_and rfl)
theorem x73_87 : Rn S 73 87 [v0, v1] [.int a] I J Q = Q (some (.int a)) I J := rR f73_87 rfl rfl rfl rfl rfl
theorem x73_88 : Rn S 73 88 [.ref q, v1] st I J Q = Rn S 73 89 [.ref q, v1] (.ref q :: st) I J Q := rL f73_88 rfl rfl
theorem x73_89_0 : Rn (zG xl) 73 89 [v0, v1] (.ref 0 :: st) I J Q = Rn (zG xl) 73 92 [v0, v1] (.ref 8 :: st) I J Q := (rGf f73_89 rfl).trans (tr_and rfl)
theorem x73_92_8 : Rn (zG xl) 73 92 [v0, v1] (.ref 8 :: st) I J Q = Rn (zG xl) 73 95 [v0, v1] (.int (I 8 9) :: st) I J Q := (rGf f73_92 rfl).trans (tr_and rfl)
theorem x73_92_28 : Rn (zG xl) 73 92 [v0, v1] (.ref 28 :: st) I J Q = Rn (zG xl) 73 95 [v0, v1] (.int (I 28 9) :: st) I J Q := (rGf f73_92 rfl).trans (tr_and rfl)
theorem x73_95 : Rn S 73 95 [v0, v1] [.int a] I J Q = Q (some (.int a)) I J := rR f73_95 rfl rfl rfl rfl rfl
theorem x73_96 : Rn S 73 96 [.ref q, v1] st I J Q = Rn S 73 97 [.ref q, v1] (.ref q :: st) I J Q := rL f73_96 rfl rfl
theorem x73_97_0 : Rn (zG xl) 73 97 [v0, v1] (.ref 0 :: st) I J Q = Rn (zG xl) 73 100 [v0, v1] (.ref 48 :: st) I J Q := (rGf f73_97 rfl).trans (tr_and rfl)
theorem x73_100_48 : Rn (zG xl) 73 100 [v0, v1] (.ref 48 :: st) I J Q = Rn (zG xl) 73 103 [v0, v1] (.int (I 48 0) :: st) I J Q := (rGf f73_100 rfl).trans (tr_and rfl)
theorem x73_103 : Rn S 73 103 [v0, v1] [.int a] I J Q = Q (some (.int a)) I J := rR f73_103 rfl rfl rfl rfl rfl
theorem x73_104 : Rn S 73 104 [.ref q, v1] st I J Q = Rn S 73 105 [.ref q, v1] (.ref q :: st) I J Q := rL f73_104 rfl rfl
theorem x73_105_0 : Rn (zG xl) 73 105 [v0, v1] (.ref 0 :: st) I J Q = Rn (zG xl) 73 108 [v0, v1] (.int (I 0 11) :: st) I J Q := (rGf f73_105 rfl).trans (tr_and rfl)
theorem x73_108 : Rn S 73 108 [v0, v1] [.int a] I J Q = Q (some (.int a)) I J := rR f73_108 rfl rfl rfl rfl rfl
theorem x73_109 : Rn S 73 109 [v0, v1] st I J Q = Rn S 73 111 [v0, v1] (.int (-2) :: st) I J Q := rS f73_109 rfl
theorem x73_111 : Rn S 73 111 [v0, v1] [.int a] I J Q = Q (some (.int a)) I J := rR f73_111 rfl rfl rfl rfl rfl
/-! X5.digest: 74 -/
theorem B74 : zB 74 = cX5_digest := rfl
theorem f74_0 : zft 74 0 = some (.ldc2_w 270, 3) := fet B74 (by decide +kernel) (Or.inr rfl)
theorem f74_3 : zft 74 3 = some (.lstore_n 1, 1) := fet B74 (by decide +kernel) (Or.inr rfl)
theorem f74_4 : zft 74 4 = some (.iconst 0, 1) := fet B74 (by decide +kernel) (Or.inr rfl)
theorem f74_5 : zft 74 5 = some (.istore_n 3, 1) := fet B74 (by decide +kernel) (Or.inr rfl)
theorem f74_6 : zft 74 6 = some (.iload_n 3, 1) := fet B74 (by decide +kernel) (Or.inr rfl)
theorem f74_7 : zft 74 7 = some (.bipush 7, 2) := fet B74 (by decide +kernel) (Or.inr rfl)
theorem f74_9 : zft 74 9 = some (.if_icmp .gt 20, 3) := fet B74 (by decide +kernel) (Or.inr rfl)
theorem f74_12 : zft 74 12 = some (.lload_n 1, 1) := fet B74 (by decide +kernel) (Or.inr rfl)
theorem f74_13 : zft 74 13 = some (.aload_n 0, 1) := fet B74 (by decide +kernel) (Or.inr rfl)
theorem f74_14 : zft 74 14 = some (.iload_n 3, 1) := fet B74 (by decide +kernel) (Or.inr rfl)
theorem f74_15 : zft 74 15 = some (.invokevirtual 272, 3) := fet B74 (by decide +kernel) (Or.inr rfl)
theorem f74_18 : zft 74 18 = some (.i2l, 1) := fet B74 (by decide +kernel) (Or.inr rfl)
theorem f74_19 : zft 74 19 = some (.invokestatic 275, 3) := fet B74 (by decide +kernel) (Or.inr rfl)
theorem f74_22 : zft 74 22 = some (.lstore_n 1, 1) := fet B74 (by decide +kernel) (Or.inr rfl)
theorem f74_23 : zft 74 23 = some (.iinc 3 1, 3) := fet B74 (by decide +kernel) (Or.inr rfl)
theorem f74_26 : zft 74 26 = some (.goto (-20), 3) := fet B74 (by decide +kernel) (Or.inr rfl)
theorem f74_29 : zft 74 29 = some (.iconst 0, 1) := fet B74 (by decide +kernel) (Or.inr rfl)
theorem f74_30 : zft 74 30 = some (.istore_n 3, 1) := fet B74 (by decide +kernel) (Or.inr rfl)
theorem f74_31 : zft 74 31 = some (.iload_n 3, 1) := fet B74 (by decide +kernel) (Or.inr rfl)
theorem f74_32 : zft 74 32 = some (.iconst 3, 1) := fet B74 (by decide +kernel) (Or.inr rfl)
theorem f74_33 : zft 74 33 = some (.if_icmp .ge 20, 3) := fet B74 (by decide +kernel) (Or.inr rfl)
theorem f74_36 : zft 74 36 = some (.lload_n 1, 1) := fet B74 (by decide +kernel) (Or.inr rfl)
theorem f74_37 : zft 74 37 = some (.aload_n 0, 1) := fet B74 (by decide +kernel) (Or.inr rfl)
theorem f74_38 : zft 74 38 = some (.iload_n 3, 1) := fet B74 (by decide +kernel) (Or.inr rfl)
theorem f74_39 : zft 74 39 = some (.invokevirtual 279, 3) := fet B74 (by decide +kernel) (Or.inr rfl)
theorem f74_42 : zft 74 42 = some (.i2l, 1) := fet B74 (by decide +kernel) (Or.inr rfl)
theorem f74_43 : zft 74 43 = some (.invokestatic 275, 3) := fet B74 (by decide +kernel) (Or.inr rfl)
theorem f74_46 : zft 74 46 = some (.lstore_n 1, 1) := fet B74 (by decide +kernel) (Or.inr rfl)
theorem f74_47 : zft 74 47 = some (.iinc 3 1, 3) := fet B74 (by decide +kernel) (Or.inr rfl)
theorem f74_50 : zft 74 50 = some (.goto (-19), 3) := fet B74 (by decide +kernel) (Or.inr rfl)
theorem f74_53 : zft 74 53 = some (.aload_n 0, 1) := fet B74 (by decide +kernel) (Or.inr rfl)
theorem f74_54 : zft 74 54 = some (.lload_n 1, 1) := fet B74 (by decide +kernel) (Or.inr rfl)
theorem f74_55 : zft 74 55 = some (.invokevirtual 282, 3) := fet B74 (by decide +kernel) (Or.inr rfl)
theorem f74_58 : zft 74 58 = some (.lstore_n 1, 1) := fet B74 (by decide +kernel) (Or.inr rfl)
theorem f74_59 : zft 74 59 = some (.aload_n 0, 1) := fet B74 (by decide +kernel) (Or.inr rfl)
theorem f74_60 : zft 74 60 = some (.lload_n 1, 1) := fet B74 (by decide +kernel) (Or.inr rfl)
theorem f74_61 : zft 74 61 = some (.invokevirtual 286, 3) := fet B74 (by decide +kernel) (Or.inr rfl)
theorem f74_64 : zft 74 64 = some (.lstore_n 1, 1) := fet B74 (by decide +kernel) (Or.inr rfl)
theorem f74_65 : zft 74 65 = some (.aload_n 0, 1) := fet B74 (by decide +kernel) (Or.inr rfl)
theorem f74_66 : zft 74 66 = some (.lload_n 1, 1) := fet B74 (by decide +kernel) (Or.inr rfl)
theorem f74_67 : zft 74 67 = some (.invokevirtual 289, 3) := fet B74 (by decide +kernel) (Or.inr rfl)
theorem f74_70 : zft 74 70 = some (.lstore_n 1, 1) := fet B74 (by decide +kernel) (Or.inr rfl)
theorem f74_71 : zft 74 71 = some (.iconst 0, 1) := fet B74 (by decide +kernel) (Or.inr rfl)
theorem f74_72 : zft 74 72 = some (.istore_n 3, 1) := fet B74 (by decide +kernel) (Or.inr rfl)
theorem f74_73 : zft 74 73 = some (.iload_n 3, 1) := fet B74 (by decide +kernel) (Or.inr rfl)
theorem f74_74 : zft 74 74 = some (.bipush 24, 2) := fet B74 (by decide +kernel) (Or.inr rfl)
theorem f74_76 : zft 74 76 = some (.if_icmp .ge 20, 3) := fet B74 (by decide +kernel) (Or.inr rfl)
theorem f74_79 : zft 74 79 = some (.lload_n 1, 1) := fet B74 (by decide +kernel) (Or.inr rfl)
theorem f74_80 : zft 74 80 = some (.aload_n 0, 1) := fet B74 (by decide +kernel) (Or.inr rfl)
theorem f74_81 : zft 74 81 = some (.iload_n 3, 1) := fet B74 (by decide +kernel) (Or.inr rfl)
theorem f74_82 : zft 74 82 = some (.invokevirtual 292, 3) := fet B74 (by decide +kernel) (Or.inr rfl)
theorem f74_85 : zft 74 85 = some (.i2l, 1) := fet B74 (by decide +kernel) (Or.inr rfl)
theorem f74_86 : zft 74 86 = some (.invokestatic 275, 3) := fet B74 (by decide +kernel) (Or.inr rfl)
theorem f74_89 : zft 74 89 = some (.lstore_n 1, 1) := fet B74 (by decide +kernel) (Or.inr rfl)
theorem f74_90 : zft 74 90 = some (.iinc 3 1, 3) := fet B74 (by decide +kernel) (Or.inr rfl)
theorem f74_93 : zft 74 93 = some (.goto (-20), 3) := fet B74 (by decide +kernel) (Or.inr rfl)
theorem f74_96 : zft 74 96 = some (.aload_n 0, 1) := fet B74 (by decide +kernel) (Or.inr rfl)
theorem f74_97 : zft 74 97 = some (.lload_n 1, 1) := fet B74 (by decide +kernel) (Or.inr rfl)
theorem f74_98 : zft 74 98 = some (.invokevirtual 295, 3) := fet B74 (by decide +kernel) (Or.inr rfl)
theorem f74_101 : zft 74 101 = some (.lreturn, 1) := fet B74 (by decide +kernel) (Or.inr rfl)
theorem x74_0 : Rn S 74 0 [v0, v1, v2, v3] st I J Q = Rn S 74 3 [v0, v1, v2, v3] (.long 17 :: st) I J Q := rS f74_0 rfl
theorem x74_3 : Rn S 74 3 [v0, v1, v2, v3] (.long u :: st) I J Q = Rn S 74 4 [zkl v0, .long u, .null, v3] st I J Q := rL f74_3 rfl rfl
theorem x74_4 : Rn S 74 4 [v0, v1, v2, v3] st I J Q = Rn S 74 5 [v0, v1, v2, v3] (.int 0 :: st) I J Q := rS f74_4 rfl
theorem x74_5 : Rn S 74 5 [v0, v1, v2, v3] (.int a :: st) I J Q = Rn S 74 6 [v0, v1, zkl v2, .int a] st I J Q := rL f74_5 rfl rfl
theorem h74_6 : Rn S 74 6 [v0, v1, v2, .int a] st I J Q = Rn S 74 7 [v0, v1, v2, .int a] (.int a :: st) I J Q := rL f74_6 rfl rfl
theorem x74_7 : Rn S 74 7 [v0, v1, v2, v3] st I J Q = Rn S 74 9 [v0, v1, v2, v3] (.int 7 :: st) I J Q := rS f74_7 rfl
theorem x74_9 : Rn S 74 9 [v0, v1, v2, v3] (.int b :: .int a :: st) I J Q = if b < a then Rn S 74 29 [v0, v1, v2, v3] st I J Q else Rn S 74 12 [v0, v1, v2, v3] st I J Q := rCgt f74_9 rfl rfl
theorem x74_12 : Rn S 74 12 [v0, .long u, v2, v3] st I J Q = Rn S 74 13 [v0, .long u, v2, v3] (.long u :: st) I J Q := rL f74_12 rfl rfl
theorem x74_13 : Rn S 74 13 [.ref q, v1, v2, v3] st I J Q = Rn S 74 14 [.ref q, v1, v2, v3] (.ref q :: st) I J Q := rL f74_13 rfl rfl
theorem x74_14 : Rn S 74 14 [v0, v1, v2, .int a] st I J Q = Rn S 74 15 [v0, v1, v2, .int a] (.int a :: st) I J Q := rL f74_14 rfl rfl
theorem x74_15 : Rn S 74 15 [v0, v1, v2, v3] (.int a0 :: .ref q :: st) I J Q = ((zcls S q = 5 ∧ zcs st ≤ 8) ∧ Rn S 73 0 [.ref q, .int a0] [] I J (fun v I' J' => Rn S 74 18 [v0, v1, v2, v3] (v.toList ++ st) I' J' Q)) := rCV (As := [.int a0]) f74_15 rfl rfl rfl rfl (Nat.le_of_ble_eq_true rfl)
theorem x74_18 : Rn S 74 18 [v0, v1, v2, v3] (.int a :: st) I J Q = Rn S 74 19 [v0, v1, v2, v3] (.long a.toInt64 :: st) I J Q := rS f74_18 rfl
theorem x74_19 : Rn S 74 19 [v0, v1, v2, v3] (.long u1 :: .long u0 :: st) I J Q = (zcs st ≤ 8 ∧ Rn S 80 0 [.long u0, .null, .long u1, .null] [] I J (fun v I' J' => Rn S 74 22 [v0, v1, v2, v3] (v.toList ++ st) I' J' Q)) := rCS (As := [.long u0, .long u1]) f74_19 rfl rfl rfl rfl (Nat.le_of_ble_eq_true rfl)
theorem x74_22 : Rn S 74 22 [v0, v1, v2, v3] (.long u :: st) I J Q = Rn S 74 23 [zkl v0, .long u, .null, v3] st I J Q := rL f74_22 rfl rfl
theorem x74_23 : Rn S 74 23 [v0, v1, v2, .int a] st I J Q = Rn S 74 26 [v0, v1, zkl v2, .int (a + 1)] st I J Q := rL f74_23 rfl rfl
theorem x74_26 : Rn S 74 26 [v0, v1, v2, v3] st I J Q = Rn S 74 6 [v0, v1, v2, v3] st I J Q := rB f74_26 rfl rfl rfl
theorem x74_29 : Rn S 74 29 [v0, v1, v2, v3] st I J Q = Rn S 74 30 [v0, v1, v2, v3] (.int 0 :: st) I J Q := rS f74_29 rfl
theorem x74_30 : Rn S 74 30 [v0, v1, v2, v3] (.int a :: st) I J Q = Rn S 74 31 [v0, v1, zkl v2, .int a] st I J Q := rL f74_30 rfl rfl
theorem h74_31 : Rn S 74 31 [v0, v1, v2, .int a] st I J Q = Rn S 74 32 [v0, v1, v2, .int a] (.int a :: st) I J Q := rL f74_31 rfl rfl
theorem x74_32 : Rn S 74 32 [v0, v1, v2, v3] st I J Q = Rn S 74 33 [v0, v1, v2, v3] (.int 3 :: st) I J Q := rS f74_32 rfl
theorem x74_33 : Rn S 74 33 [v0, v1, v2, v3] (.int b :: .int a :: st) I J Q = if a < b then Rn S 74 36 [v0, v1, v2, v3] st I J Q else Rn S 74 53 [v0, v1, v2, v3] st I J Q := rCge f74_33 rfl rfl
theorem x74_36 : Rn S 74 36 [v0, .long u, v2, v3] st I J Q = Rn S 74 37 [v0, .long u, v2, v3] (.long u :: st) I J Q := rL f74_36 rfl rfl
theorem x74_37 : Rn S 74 37 [.ref q, v1, v2, v3] st I J Q = Rn S 74 38 [.ref q, v1, v2, v3] (.ref q :: st) I J Q := rL f74_37 rfl rfl
theorem x74_38 : Rn S 74 38 [v0, v1, v2, .int a] st I J Q = Rn S 74 39 [v0, v1, v2, .int a] (.int a :: st) I J Q := rL f74_38 rfl rfl
theorem x74_39 : Rn S 74 39 [v0, v1, v2, v3] (.int a0 :: .ref q :: st) I J Q = ((zcls S q = 5 ∧ zcs st ≤ 8) ∧ Rn S 40 0 [.ref q, .int a0] [] I J (fun v I' J' => Rn S 74 42 [v0, v1, v2, v3] (v.toList ++ st) I' J' Q)) := rCV (As := [.int a0]) f74_39 rfl rfl rfl rfl (Nat.le_of_ble_eq_true rfl)
theorem x74_42 : Rn S 74 42 [v0, v1, v2, v3] (.int a :: st) I J Q = Rn S 74 43 [v0, v1, v2, v3] (.long a.toInt64 :: st) I J Q := rS f74_42 rfl
theorem x74_43 : Rn S 74 43 [v0, v1, v2, v3] (.long u1 :: .long u0 :: st) I J Q = (zcs st ≤ 8 ∧ Rn S 80 0 [.long u0, .null, .long u1, .null] [] I J (fun v I' J' => Rn S 74 46 [v0, v1, v2, v3] (v.toList ++ st) I' J' Q)) := rCS (As := [.long u0, .long u1]) f74_43 rfl rfl rfl rfl (Nat.le_of_ble_eq_true rfl)
theorem x74_46 : Rn S 74 46 [v0, v1, v2, v3] (.long u :: st) I J Q = Rn S 74 47 [zkl v0, .long u, .null, v3] st I J Q := rL f74_46 rfl rfl
theorem x74_47 : Rn S 74 47 [v0, v1, v2, .int a] st I J Q = Rn S 74 50 [v0, v1, zkl v2, .int (a + 1)] st I J Q := rL f74_47 rfl rfl
theorem x74_50 : Rn S 74 50 [v0, v1, v2, v3] st I J Q = Rn S 74 31 [v0, v1, v2, v3] st I J Q := rB f74_50 rfl rfl rfl
theorem x74_53 : Rn S 74 53 [.ref q, v1, v2, v3] st I J Q = Rn S 74 54 [.ref q, v1, v2, v3] (.ref q :: st) I J Q := rL f74_53 rfl rfl
theorem x74_54 : Rn S 74 54 [v0, .long u, v2, v3] st I J Q = Rn S 74 55 [v0, .long u, v2, v3] (.long u :: st) I J Q := rL f74_54 rfl rfl
theorem x74_55 : Rn S 74 55 [v0, v1, v2, v3] (.long u0 :: .ref q :: st) I J Q = ((zcls S q = 5 ∧ zcs st ≤ 8) ∧ Rn S 75 0 [.ref q, .long u0, .null, .null, .null, .null] [] I J (fun v I' J' => Rn S 74 58 [v0, v1, v2, v3] (v.toList ++ st) I' J' Q)) := rCV (As := [.long u0]) f74_55 rfl rfl rfl rfl (Nat.le_of_ble_eq_true rfl)
theorem x74_58 : Rn S 74 58 [v0, v1, v2, v3] (.long u :: st) I J Q = Rn S 74 59 [zkl v0, .long u, .null, v3] st I J Q := rL f74_58 rfl rfl
theorem x74_59 : Rn S 74 59 [.ref q, v1, v2, v3] st I J Q = Rn S 74 60 [.ref q, v1, v2, v3] (.ref q :: st) I J Q := rL f74_59 rfl rfl
theorem x74_60 : Rn S 74 60 [v0, .long u, v2, v3] st I J Q = Rn S 74 61 [v0, .long u, v2, v3] (.long u :: st) I J Q := rL f74_60 rfl rfl
theorem x74_61 : Rn S 74 61 [v0, v1, v2, v3] (.long u0 :: .ref q :: st) I J Q = ((zcls S q = 5 ∧ zcs st ≤ 8) ∧ Rn S 76 0 [.ref q, .long u0, .null, .null, .null, .null, .null] [] I J (fun v I' J' => Rn S 74 64 [v0, v1, v2, v3] (v.toList ++ st) I' J' Q)) := rCV (As := [.long u0]) f74_61 rfl rfl rfl rfl (Nat.le_of_ble_eq_true rfl)
theorem x74_64 : Rn S 74 64 [v0, v1, v2, v3] (.long u :: st) I J Q = Rn S 74 65 [zkl v0, .long u, .null, v3] st I J Q := rL f74_64 rfl rfl
theorem x74_65 : Rn S 74 65 [.ref q, v1, v2, v3] st I J Q = Rn S 74 66 [.ref q, v1, v2, v3] (.ref q :: st) I J Q := rL f74_65 rfl rfl
theorem x74_66 : Rn S 74 66 [v0, .long u, v2, v3] st I J Q = Rn S 74 67 [v0, .long u, v2, v3] (.long u :: st) I J Q := rL f74_66 rfl rfl
theorem x74_67 : Rn S 74 67 [v0, v1, v2, v3] (.long u0 :: .ref q :: st) I J Q = ((zcls S q = 5 ∧ zcs st ≤ 8) ∧ Rn S 77 0 [.ref q, .long u0, .null, .null, .null, .null, .null] [] I J (fun v I' J' => Rn S 74 70 [v0, v1, v2, v3] (v.toList ++ st) I' J' Q)) := rCV (As := [.long u0]) f74_67 rfl rfl rfl rfl (Nat.le_of_ble_eq_true rfl)
theorem x74_70 : Rn S 74 70 [v0, v1, v2, v3] (.long u :: st) I J Q = Rn S 74 71 [zkl v0, .long u, .null, v3] st I J Q := rL f74_70 rfl rfl
theorem x74_71 : Rn S 74 71 [v0, v1, v2, v3] st I J Q = Rn S 74 72 [v0, v1, v2, v3] (.int 0 :: st) I J Q := rS f74_71 rfl
theorem x74_72 : Rn S 74 72 [v0, v1, v2, v3] (.int a :: st) I J Q = Rn S 74 73 [v0, v1, zkl v2, .int a] st I J Q := rL f74_72 rfl rfl
theorem h74_73 : Rn S 74 73 [v0, v1, v2, .int a] st I J Q = Rn S 74 74 [v0, v1, v2, .int a] (.int a :: st) I J Q := rL f74_73 rfl rfl
theorem x74_74 : Rn S 74 74 [v0, v1, v2, v3] st I J Q = Rn S 74 76 [v0, v1, v2, v3] (.int 24 :: st) I J Q := rS f74_74 rfl
theorem x74_76 : Rn S 74 76 [v0, v1, v2, v3] (.int b :: .int a :: st) I J Q = if a < b then Rn S 74 79 [v0, v1, v2, v3] st I J Q else Rn S 74 96 [v0, v1, v2, v3] st I J Q := rCge f74_76 rfl rfl
theorem x74_79 : Rn S 74 79 [v0, .long u, v2, v3] st I J Q = Rn S 74 80 [v0, .long u, v2, v3] (.long u :: st) I J Q := rL f74_79 rfl rfl
theorem x74_80 : Rn S 74 80 [.ref q, v1, v2, v3] st I J Q = Rn S 74 81 [.ref q, v1, v2, v3] (.ref q :: st) I J Q := rL f74_80 rfl rfl
theorem x74_81 : Rn S 74 81 [v0, v1, v2, .int a] st I J Q = Rn S 74 82 [v0, v1, v2, .int a] (.int a :: st) I J Q := rL f74_81 rfl rfl
theorem x74_82 : Rn S 74 82 [v0, v1, v2, v3] (.int a0 :: .ref q :: st) I J Q = ((zcls S q = 5 ∧ zcs st ≤ 8) ∧ Rn S 51 0 [.ref q, .int a0] [] I J (fun v I' J' => Rn S 74 85 [v0, v1, v2, v3] (v.toList ++ st) I' J' Q)) := rCV (As := [.int a0]) f74_82 rfl rfl rfl rfl (Nat.le_of_ble_eq_true rfl)
theorem x74_85 : Rn S 74 85 [v0, v1, v2, v3] (.int a :: st) I J Q = Rn S 74 86 [v0, v1, v2, v3] (.long a.toInt64 :: st) I J Q := rS f74_85 rfl
theorem x74_86 : Rn S 74 86 [v0, v1, v2, v3] (.long u1 :: .long u0 :: st) I J Q = (zcs st ≤ 8 ∧ Rn S 80 0 [.long u0, .null, .long u1, .null] [] I J (fun v I' J' => Rn S 74 89 [v0, v1, v2, v3] (v.toList ++ st) I' J' Q)) := rCS (As := [.long u0, .long u1]) f74_86 rfl rfl rfl rfl (Nat.le_of_ble_eq_true rfl)
theorem x74_89 : Rn S 74 89 [v0, v1, v2, v3] (.long u :: st) I J Q = Rn S 74 90 [zkl v0, .long u, .null, v3] st I J Q := rL f74_89 rfl rfl
theorem x74_90 : Rn S 74 90 [v0, v1, v2, .int a] st I J Q = Rn S 74 93 [v0, v1, zkl v2, .int (a + 1)] st I J Q := rL f74_90 rfl rfl
theorem x74_93 : Rn S 74 93 [v0, v1, v2, v3] st I J Q = Rn S 74 73 [v0, v1, v2, v3] st I J Q := rB f74_93 rfl rfl rfl
theorem x74_96 : Rn S 74 96 [.ref q, v1, v2, v3] st I J Q = Rn S 74 97 [.ref q, v1, v2, v3] (.ref q :: st) I J Q := rL f74_96 rfl rfl
theorem x74_97 : Rn S 74 97 [v0, .long u, v2, v3] st I J Q = Rn S 74 98 [v0, .long u, v2, v3] (.long u :: st) I J Q := rL f74_97 rfl rfl
theorem x74_98 : Rn S 74 98 [v0, v1, v2, v3] (.long u0 :: .ref q :: st) I J Q = ((zcls S q = 5 ∧ zcs st ≤ 8) ∧ Rn S 78 0 [.ref q, .long u0, .null, .null, .null] [] I J (fun v I' J' => Rn S 74 101 [v0, v1, v2, v3] (v.toList ++ st) I' J' Q)) := rCV (As := [.long u0]) f74_98 rfl rfl rfl rfl (Nat.le_of_ble_eq_true rfl)
theorem x74_101 : Rn S 74 101 [v0, v1, v2, v3] [.long u] I J Q = Q (some (.long u)) I J := rR f74_101 rfl rfl rfl rfl rfl
/-! X5.digestShifts: 75 -/
theorem B75 : zB 75 = cX5_digestShifts := rfl
theorem f75_0 : zft 75 0 = some (.lload_n 1, 1) := fet B75 (by decide +kernel) (Or.inr rfl)
theorem f75_1 : zft 75 1 = some (.lstore_n 3, 1) := fet B75 (by decide +kernel) (Or.inr rfl)
theorem f75_2 : zft 75 2 = some (.iconst 0, 1) := fet B75 (by decide +kernel) (Or.inr rfl)
theorem f75_3 : zft 75 3 = some (.istore 5, 2) := fet B75 (by decide +kernel) (Or.inr rfl)
theorem f75_5 : zft 75 5 = some (.iload 5, 2) := fet B75 (by decide +kernel) (Or.inr rfl)
theorem f75_7 : zft 75 7 = some (.bipush 16, 2) := fet B75 (by decide +kernel) (Or.inr rfl)
theorem f75_9 : zft 75 9 = some (.if_icmp .ge 35, 3) := fet B75 (by decide +kernel) (Or.inr rfl)
theorem f75_12 : zft 75 12 = some (.lload_n 3, 1) := fet B75 (by decide +kernel) (Or.inr rfl)
theorem f75_13 : zft 75 13 = some (.aload_n 0, 1) := fet B75 (by decide +kernel) (Or.inr rfl)
theorem f75_14 : zft 75 14 = some (.iload 5, 2) := fet B75 (by decide +kernel) (Or.inr rfl)
theorem f75_16 : zft 75 16 = some (.iconst 0, 1) := fet B75 (by decide +kernel) (Or.inr rfl)
theorem f75_17 : zft 75 17 = some (.invokevirtual 298, 3) := fet B75 (by decide +kernel) (Or.inr rfl)
theorem f75_20 : zft 75 20 = some (.i2l, 1) := fet B75 (by decide +kernel) (Or.inr rfl)
theorem f75_21 : zft 75 21 = some (.invokestatic 275, 3) := fet B75 (by decide +kernel) (Or.inr rfl)
theorem f75_24 : zft 75 24 = some (.lstore_n 3, 1) := fet B75 (by decide +kernel) (Or.inr rfl)
theorem f75_25 : zft 75 25 = some (.lload_n 3, 1) := fet B75 (by decide +kernel) (Or.inr rfl)
theorem f75_26 : zft 75 26 = some (.aload_n 0, 1) := fet B75 (by decide +kernel) (Or.inr rfl)
theorem f75_27 : zft 75 27 = some (.iload 5, 2) := fet B75 (by decide +kernel) (Or.inr rfl)
theorem f75_29 : zft 75 29 = some (.iconst 1, 1) := fet B75 (by decide +kernel) (Or.inr rfl)
theorem f75_30 : zft 75 30 = some (.invokevirtual 298, 3) := fet B75 (by decide +kernel) (Or.inr rfl)
theorem f75_33 : zft 75 33 = some (.i2l, 1) := fet B75 (by decide +kernel) (Or.inr rfl)
theorem f75_34 : zft 75 34 = some (.invokestatic 275, 3) := fet B75 (by decide +kernel) (Or.inr rfl)
theorem f75_37 : zft 75 37 = some (.lstore_n 3, 1) := fet B75 (by decide +kernel) (Or.inr rfl)
theorem f75_38 : zft 75 38 = some (.iinc 5 1, 3) := fet B75 (by decide +kernel) (Or.inr rfl)
theorem f75_41 : zft 75 41 = some (.goto (-36), 3) := fet B75 (by decide +kernel) (Or.inr rfl)
theorem f75_44 : zft 75 44 = some (.iconst 0, 1) := fet B75 (by decide +kernel) (Or.inr rfl)
theorem f75_45 : zft 75 45 = some (.istore 5, 2) := fet B75 (by decide +kernel) (Or.inr rfl)
theorem f75_47 : zft 75 47 = some (.iload 5, 2) := fet B75 (by decide +kernel) (Or.inr rfl)
theorem f75_49 : zft 75 49 = some (.aload_n 0, 1) := fet B75 (by decide +kernel) (Or.inr rfl)
theorem f75_50 : zft 75 50 = some (.getfield 27, 3) := fet B75 (by decide +kernel) (Or.inr rfl)
theorem f75_53 : zft 75 53 = some (.getfield 111, 3) := fet B75 (by decide +kernel) (Or.inr rfl)
theorem f75_56 : zft 75 56 = some (.if_icmp .ge 35, 3) := fet B75 (by decide +kernel) (Or.inr rfl)
theorem f75_59 : zft 75 59 = some (.lload_n 3, 1) := fet B75 (by decide +kernel) (Or.inr rfl)
theorem f75_60 : zft 75 60 = some (.aload_n 0, 1) := fet B75 (by decide +kernel) (Or.inr rfl)
theorem f75_61 : zft 75 61 = some (.iload 5, 2) := fet B75 (by decide +kernel) (Or.inr rfl)
theorem f75_63 : zft 75 63 = some (.iconst 0, 1) := fet B75 (by decide +kernel) (Or.inr rfl)
theorem f75_64 : zft 75 64 = some (.invokevirtual 301, 3) := fet B75 (by decide +kernel) (Or.inr rfl)
theorem f75_67 : zft 75 67 = some (.i2l, 1) := fet B75 (by decide +kernel) (Or.inr rfl)
theorem f75_68 : zft 75 68 = some (.invokestatic 275, 3) := fet B75 (by decide +kernel) (Or.inr rfl)
theorem f75_71 : zft 75 71 = some (.lstore_n 3, 1) := fet B75 (by decide +kernel) (Or.inr rfl)
theorem f75_72 : zft 75 72 = some (.lload_n 3, 1) := fet B75 (by decide +kernel) (Or.inr rfl)
theorem f75_73 : zft 75 73 = some (.aload_n 0, 1) := fet B75 (by decide +kernel) (Or.inr rfl)
theorem f75_74 : zft 75 74 = some (.iload 5, 2) := fet B75 (by decide +kernel) (Or.inr rfl)
theorem f75_76 : zft 75 76 = some (.iconst 1, 1) := fet B75 (by decide +kernel) (Or.inr rfl)
theorem f75_77 : zft 75 77 = some (.invokevirtual 301, 3) := fet B75 (by decide +kernel) (Or.inr rfl)
theorem f75_80 : zft 75 80 = some (.i2l, 1) := fet B75 (by decide +kernel) (Or.inr rfl)
theorem f75_81 : zft 75 81 = some (.invokestatic 275, 3) := fet B75 (by decide +kernel) (Or.inr rfl)
theorem f75_84 : zft 75 84 = some (.lstore_n 3, 1) := fet B75 (by decide +kernel) (Or.inr rfl)
theorem f75_85 : zft 75 85 = some (.iinc 5 1, 3) := fet B75 (by decide +kernel) (Or.inr rfl)
theorem f75_88 : zft 75 88 = some (.goto (-41), 3) := fet B75 (by decide +kernel) (Or.inr rfl)
theorem f75_91 : zft 75 91 = some (.lload_n 3, 1) := fet B75 (by decide +kernel) (Or.inr rfl)
theorem f75_92 : zft 75 92 = some (.lreturn, 1) := fet B75 (by decide +kernel) (Or.inr rfl)
theorem x75_0 : Rn S 75 0 [v0, .long u, v2, v3, v4, v5] st I J Q = Rn S 75 1 [v0, .long u, v2, v3, v4, v5] (.long u :: st) I J Q := rL f75_0 rfl rfl
theorem x75_1 : Rn S 75 1 [v0, v1, v2, v3, v4, v5] (.long u :: st) I J Q = Rn S 75 2 [v0, v1, zkl v2, .long u, .null, v5] st I J Q := rL f75_1 rfl rfl
theorem x75_2 : Rn S 75 2 [v0, v1, v2, v3, v4, v5] st I J Q = Rn S 75 3 [v0, v1, v2, v3, v4, v5] (.int 0 :: st) I J Q := rS f75_2 rfl
theorem x75_3 : Rn S 75 3 [v0, v1, v2, v3, v4, v5] (.int a :: st) I J Q = Rn S 75 5 [v0, v1, v2, v3, zkl v4, .int a] st I J Q := rL f75_3 rfl rfl
theorem h75_5 : Rn S 75 5 [v0, v1, v2, v3, v4, .int a] st I J Q = Rn S 75 7 [v0, v1, v2, v3, v4, .int a] (.int a :: st) I J Q := rL f75_5 rfl rfl
theorem x75_7 : Rn S 75 7 [v0, v1, v2, v3, v4, v5] st I J Q = Rn S 75 9 [v0, v1, v2, v3, v4, v5] (.int 16 :: st) I J Q := rS f75_7 rfl
theorem x75_9 : Rn S 75 9 [v0, v1, v2, v3, v4, v5] (.int b :: .int a :: st) I J Q = if a < b then Rn S 75 12 [v0, v1, v2, v3, v4, v5] st I J Q else Rn S 75 44 [v0, v1, v2, v3, v4, v5] st I J Q := rCge f75_9 rfl rfl
theorem x75_12 : Rn S 75 12 [v0, v1, v2, .long u, v4, v5] st I J Q = Rn S 75 13 [v0, v1, v2, .long u, v4, v5] (.long u :: st) I J Q := rL f75_12 rfl rfl
theorem x75_13 : Rn S 75 13 [.ref q, v1, v2, v3, v4, v5] st I J Q = Rn S 75 14 [.ref q, v1, v2, v3, v4, v5] (.ref q :: st) I J Q := rL f75_13 rfl rfl
theorem x75_14 : Rn S 75 14 [v0, v1, v2, v3, v4, .int a] st I J Q = Rn S 75 16 [v0, v1, v2, v3, v4, .int a] (.int a :: st) I J Q := rL f75_14 rfl rfl
theorem x75_16 : Rn S 75 16 [v0, v1, v2, v3, v4, v5] st I J Q = Rn S 75 17 [v0, v1, v2, v3, v4, v5] (.int 0 :: st) I J Q := rS f75_16 rfl
theorem x75_17 : Rn S 75 17 [v0, v1, v2, v3, v4, v5] (.int a1 :: .int a0 :: .ref q :: st) I J Q = ((zcls S q = 5 ∧ zcs st ≤ 8) ∧ Rn S 43 0 [.ref q, .int a0, .int a1] [] I J (fun v I' J' => Rn S 75 20 [v0, v1, v2, v3, v4, v5] (v.toList ++ st) I' J' Q)) := rCV (As := [.int a0, .int a1]) f75_17 rfl rfl rfl rfl (Nat.le_of_ble_eq_true rfl)
theorem x75_20 : Rn S 75 20 [v0, v1, v2, v3, v4, v5] (.int a :: st) I J Q = Rn S 75 21 [v0, v1, v2, v3, v4, v5] (.long a.toInt64 :: st) I J Q := rS f75_20 rfl
theorem x75_21 : Rn S 75 21 [v0, v1, v2, v3, v4, v5] (.long u1 :: .long u0 :: st) I J Q = (zcs st ≤ 8 ∧ Rn S 80 0 [.long u0, .null, .long u1, .null] [] I J (fun v I' J' => Rn S 75 24 [v0, v1, v2, v3, v4, v5] (v.toList ++ st) I' J' Q)) := rCS (As := [.long u0, .long u1]) f75_21 rfl rfl rfl rfl (Nat.le_of_ble_eq_true rfl)
theorem x75_24 : Rn S 75 24 [v0, v1, v2, v3, v4, v5] (.long u :: st) I J Q = Rn S 75 25 [v0, v1, zkl v2, .long u, .null, v5] st I J Q := rL f75_24 rfl rfl
theorem x75_25 : Rn S 75 25 [v0, v1, v2, .long u, v4, v5] st I J Q = Rn S 75 26 [v0, v1, v2, .long u, v4, v5] (.long u :: st) I J Q := rL f75_25 rfl rfl
theorem x75_26 : Rn S 75 26 [.ref q, v1, v2, v3, v4, v5] st I J Q = Rn S 75 27 [.ref q, v1, v2, v3, v4, v5] (.ref q :: st) I J Q := rL f75_26 rfl rfl
theorem x75_27 : Rn S 75 27 [v0, v1, v2, v3, v4, .int a] st I J Q = Rn S 75 29 [v0, v1, v2, v3, v4, .int a] (.int a :: st) I J Q := rL f75_27 rfl rfl
theorem x75_29 : Rn S 75 29 [v0, v1, v2, v3, v4, v5] st I J Q = Rn S 75 30 [v0, v1, v2, v3, v4, v5] (.int 1 :: st) I J Q := rS f75_29 rfl
theorem x75_30 : Rn S 75 30 [v0, v1, v2, v3, v4, v5] (.int a1 :: .int a0 :: .ref q :: st) I J Q = ((zcls S q = 5 ∧ zcs st ≤ 8) ∧ Rn S 43 0 [.ref q, .int a0, .int a1] [] I J (fun v I' J' => Rn S 75 33 [v0, v1, v2, v3, v4, v5] (v.toList ++ st) I' J' Q)) := rCV (As := [.int a0, .int a1]) f75_30 rfl rfl rfl rfl (Nat.le_of_ble_eq_true rfl)
theorem x75_33 : Rn S 75 33 [v0, v1, v2, v3, v4, v5] (.int a :: st) I J Q = Rn S 75 34 [v0, v1, v2, v3, v4, v5] (.long a.toInt64 :: st) I J Q := rS f75_33 rfl
theorem x75_34 : Rn S 75 34 [v0, v1, v2, v3, v4, v5] (.long u1 :: .long u0 :: st) I J Q = (zcs st ≤ 8 ∧ Rn S 80 0 [.long u0, .null, .long u1, .null] [] I J (fun v I' J' => Rn S 75 37 [v0, v1, v2, v3, v4, v5] (v.toList ++ st) I' J' Q)) := rCS (As := [.long u0, .long u1]) f75_34 rfl rfl rfl rfl (Nat.le_of_ble_eq_true rfl)
theorem x75_37 : Rn S 75 37 [v0, v1, v2, v3, v4, v5] (.long u :: st) I J Q = Rn S 75 38 [v0, v1, zkl v2, .long u, .null, v5] st I J Q := rL f75_37 rfl rfl
theorem x75_38 : Rn S 75 38 [v0, v1, v2, v3, v4, .int a] st I J Q = Rn S 75 41 [v0, v1, v2, v3, zkl v4, .int (a + 1)] st I J Q := rL f75_38 rfl rfl
theorem x75_41 : Rn S 75 41 [v0, v1, v2, v3, v4, v5] st I J Q = Rn S 75 5 [v0, v1, v2, v3, v4, v5] st I J Q := rB f75_41 rfl rfl rfl
theorem x75_44 : Rn S 75 44 [v0, v1, v2, v3, v4, v5] st I J Q = Rn S 75 45 [v0, v1, v2, v3, v4, v5] (.int 0 :: st) I J Q := rS f75_44 rfl
theorem x75_45 : Rn S 75 45 [v0, v1, v2, v3, v4, v5] (.int a :: st) I J Q = Rn S 75 47 [v0, v1, v2, v3, zkl v4, .int a] st I J Q := rL f75_45 rfl rfl
theorem h75_47 : Rn S 75 47 [v0, v1, v2, v3, v4, .int a] st I J Q = Rn S 75 49 [v0, v1, v2, v3, v4, .int a] (.int a :: st) I J Q := rL f75_47 rfl rfl
theorem x75_49 : Rn S 75 49 [.ref q, v1, v2, v3, v4, v5] st I J Q = Rn S 75 50 [.ref q, v1, v2, v3, v4, v5] (.ref q :: st) I J Q := rL f75_49 rfl rfl
theorem x75_50_0 : Rn (zG xl) 75 50 [v0, v1, v2, v3, v4, v5] (.ref 0 :: st) I J Q = Rn (zG xl) 75 53 [v0, v1, v2, v3, v4, v5] (.ref 8 :: st) I J Q := (rGf f75_50 rfl).trans (tr_and rfl)
theorem x75_53_8 : Rn (zG xl) 75 53 [v0, v1, v2, v3, v4, v5] (.ref 8 :: st) I J Q = Rn (zG xl) 75 56 [v0, v1, v2, v3, v4, v5] (.int (I 8 6) :: st) I J Q := (rGf f75_53 rfl).trans (tr_and rfl)
theorem x75_53_28 : Rn (zG xl) 75 53 [v0, v1, v2, v3, v4, v5] (.ref 28 :: st) I J Q = Rn (zG xl) 75 56 [v0, v1, v2, v3, v4, v5] (.int (I 28 6) :: st) I J Q := (rGf f75_53 rfl).trans (tr_and rfl)
theorem x75_56 : Rn S 75 56 [v0, v1, v2, v3, v4, v5] (.int b :: .int a :: st) I J Q = if a < b then Rn S 75 59 [v0, v1, v2, v3, v4, v5] st I J Q else Rn S 75 91 [v0, v1, v2, v3, v4, v5] st I J Q := rCge f75_56 rfl rfl
theorem x75_59 : Rn S 75 59 [v0, v1, v2, .long u, v4, v5] st I J Q = Rn S 75 60 [v0, v1, v2, .long u, v4, v5] (.long u :: st) I J Q := rL f75_59 rfl rfl
theorem x75_60 : Rn S 75 60 [.ref q, v1, v2, v3, v4, v5] st I J Q = Rn S 75 61 [.ref q, v1, v2, v3, v4, v5] (.ref q :: st) I J Q := rL f75_60 rfl rfl
theorem x75_61 : Rn S 75 61 [v0, v1, v2, v3, v4, .int a] st I J Q = Rn S 75 63 [v0, v1, v2, v3, v4, .int a] (.int a :: st) I J Q := rL f75_61 rfl rfl
theorem x75_63 : Rn S 75 63 [v0, v1, v2, v3, v4, v5] st I J Q = Rn S 75 64 [v0, v1, v2, v3, v4, v5] (.int 0 :: st) I J Q := rS f75_63 rfl
theorem x75_64 : Rn S 75 64 [v0, v1, v2, v3, v4, v5] (.int a1 :: .int a0 :: .ref q :: st) I J Q = ((zcls S q = 5 ∧ zcs st ≤ 8) ∧ Rn S 50 0 [.ref q, .int a0, .int a1] [] I J (fun v I' J' => Rn S 75 67 [v0, v1, v2, v3, v4, v5] (v.toList ++ st) I' J' Q)) := rCV (As := [.int a0, .int a1]) f75_64 rfl rfl rfl rfl (Nat.le_of_ble_eq_true rfl)
theorem x75_67 : Rn S 75 67 [v0, v1, v2, v3, v4, v5] (.int a :: st) I J Q = Rn S 75 68 [v0, v1, v2, v3, v4, v5] (.long a.toInt64 :: st) I J Q := rS f75_67 rfl
theorem x75_68 : Rn S 75 68 [v0, v1, v2, v3, v4, v5] (.long u1 :: .long u0 :: st) I J Q = (zcs st ≤ 8 ∧ Rn S 80 0 [.long u0, .null, .long u1, .null] [] I J (fun v I' J' => Rn S 75 71 [v0, v1, v2, v3, v4, v5] (v.toList ++ st) I' J' Q)) := rCS (As := [.long u0, .long u1]) f75_68 rfl rfl rfl rfl (Nat.le_of_ble_eq_true rfl)
theorem x75_71 : Rn S 75 71 [v0, v1, v2, v3, v4, v5] (.long u :: st) I J Q = Rn S 75 72 [v0, v1, zkl v2, .long u, .null, v5] st I J Q := rL f75_71 rfl rfl
theorem x75_72 : Rn S 75 72 [v0, v1, v2, .long u, v4, v5] st I J Q = Rn S 75 73 [v0, v1, v2, .long u, v4, v5] (.long u :: st) I J Q := rL f75_72 rfl rfl
theorem x75_73 : Rn S 75 73 [.ref q, v1, v2, v3, v4, v5] st I J Q = Rn S 75 74 [.ref q, v1, v2, v3, v4, v5] (.ref q :: st) I J Q := rL f75_73 rfl rfl
theorem x75_74 : Rn S 75 74 [v0, v1, v2, v3, v4, .int a] st I J Q = Rn S 75 76 [v0, v1, v2, v3, v4, .int a] (.int a :: st) I J Q := rL f75_74 rfl rfl
theorem x75_76 : Rn S 75 76 [v0, v1, v2, v3, v4, v5] st I J Q = Rn S 75 77 [v0, v1, v2, v3, v4, v5] (.int 1 :: st) I J Q := rS f75_76 rfl
theorem x75_77 : Rn S 75 77 [v0, v1, v2, v3, v4, v5] (.int a1 :: .int a0 :: .ref q :: st) I J Q = ((zcls S q = 5 ∧ zcs st ≤ 8) ∧ Rn S 50 0 [.ref q, .int a0, .int a1] [] I J (fun v I' J' => Rn S 75 80 [v0, v1, v2, v3, v4, v5] (v.toList ++ st) I' J' Q)) := rCV (As := [.int a0, .int a1]) f75_77 rfl rfl rfl rfl (Nat.le_of_ble_eq_true rfl)
theorem x75_80 : Rn S 75 80 [v0, v1, v2, v3, v4, v5] (.int a :: st) I J Q = Rn S 75 81 [v0, v1, v2, v3, v4, v5] (.long a.toInt64 :: st) I J Q := rS f75_80 rfl
theorem x75_81 : Rn S 75 81 [v0, v1, v2, v3, v4, v5] (.long u1 :: .long u0 :: st) I J Q = (zcs st ≤ 8 ∧ Rn S 80 0 [.long u0, .null, .long u1, .null] [] I J (fun v I' J' => Rn S 75 84 [v0, v1, v2, v3, v4, v5] (v.toList ++ st) I' J' Q)) := rCS (As := [.long u0, .long u1]) f75_81 rfl rfl rfl rfl (Nat.le_of_ble_eq_true rfl)
theorem x75_84 : Rn S 75 84 [v0, v1, v2, v3, v4, v5] (.long u :: st) I J Q = Rn S 75 85 [v0, v1, zkl v2, .long u, .null, v5] st I J Q := rL f75_84 rfl rfl
theorem x75_85 : Rn S 75 85 [v0, v1, v2, v3, v4, .int a] st I J Q = Rn S 75 88 [v0, v1, v2, v3, zkl v4, .int (a + 1)] st I J Q := rL f75_85 rfl rfl
theorem x75_88 : Rn S 75 88 [v0, v1, v2, v3, v4, v5] st I J Q = Rn S 75 47 [v0, v1, v2, v3, v4, v5] st I J Q := rB f75_88 rfl rfl rfl
theorem x75_91 : Rn S 75 91 [v0, v1, v2, .long u, v4, v5] st I J Q = Rn S 75 92 [v0, v1, v2, .long u, v4, v5] (.long u :: st) I J Q := rL f75_91 rfl rfl
theorem x75_92 : Rn S 75 92 [v0, v1, v2, v3, v4, v5] [.long u] I J Q = Q (some (.long u)) I J := rR f75_92 rfl rfl rfl rfl rfl
/-! X5.digestLines: 76 -/
theorem B76 : zB 76 = cX5_digestLines := rfl
theorem f76_0 : zft 76 0 = some (.lload_n 1, 1) := fet B76 (by decide +kernel) (Or.inr rfl)
theorem f76_1 : zft 76 1 = some (.lstore_n 3, 1) := fet B76 (by decide +kernel) (Or.inr rfl)
theorem f76_2 : zft 76 2 = some (.aload_n 0, 1) := fet B76 (by decide +kernel) (Or.inr rfl)
theorem f76_3 : zft 76 3 = some (.iconst 5, 1) := fet B76 (by decide +kernel) (Or.inr rfl)
theorem f76_4 : zft 76 4 = some (.invokevirtual 228, 3) := fet B76 (by decide +kernel) (Or.inr rfl)
theorem f76_7 : zft 76 7 = some (.iconst 0, 1) := fet B76 (by decide +kernel) (Or.inr rfl)
theorem f76_8 : zft 76 8 = some (.istore 5, 2) := fet B76 (by decide +kernel) (Or.inr rfl)
theorem f76_10 : zft 76 10 = some (.iload 5, 2) := fet B76 (by decide +kernel) (Or.inr rfl)
theorem f76_12 : zft 76 12 = some (.aload_n 0, 1) := fet B76 (by decide +kernel) (Or.inr rfl)
theorem f76_13 : zft 76 13 = some (.getfield 27, 3) := fet B76 (by decide +kernel) (Or.inr rfl)
theorem f76_16 : zft 76 16 = some (.getfield 90, 3) := fet B76 (by decide +kernel) (Or.inr rfl)
theorem f76_19 : zft 76 19 = some (.if_icmp .ge 103, 3) := fet B76 (by decide +kernel) (Or.inr rfl)
theorem f76_22 : zft 76 22 = some (.iconst 0, 1) := fet B76 (by decide +kernel) (Or.inr rfl)
theorem f76_23 : zft 76 23 = some (.istore 6, 2) := fet B76 (by decide +kernel) (Or.inr rfl)
theorem f76_25 : zft 76 25 = some (.iload 6, 2) := fet B76 (by decide +kernel) (Or.inr rfl)
theorem f76_27 : zft 76 27 = some (.iconst 3, 1) := fet B76 (by decide +kernel) (Or.inr rfl)
theorem f76_28 : zft 76 28 = some (.if_icmp .ge 23, 3) := fet B76 (by decide +kernel) (Or.inr rfl)
theorem f76_31 : zft 76 31 = some (.lload_n 3, 1) := fet B76 (by decide +kernel) (Or.inr rfl)
theorem f76_32 : zft 76 32 = some (.aload_n 0, 1) := fet B76 (by decide +kernel) (Or.inr rfl)
theorem f76_33 : zft 76 33 = some (.iload 5, 2) := fet B76 (by decide +kernel) (Or.inr rfl)
theorem f76_35 : zft 76 35 = some (.iload 6, 2) := fet B76 (by decide +kernel) (Or.inr rfl)
theorem f76_37 : zft 76 37 = some (.invokevirtual 304, 3) := fet B76 (by decide +kernel) (Or.inr rfl)
theorem f76_40 : zft 76 40 = some (.i2l, 1) := fet B76 (by decide +kernel) (Or.inr rfl)
theorem f76_41 : zft 76 41 = some (.invokestatic 275, 3) := fet B76 (by decide +kernel) (Or.inr rfl)
theorem f76_44 : zft 76 44 = some (.lstore_n 3, 1) := fet B76 (by decide +kernel) (Or.inr rfl)
theorem f76_45 : zft 76 45 = some (.iinc 6 1, 3) := fet B76 (by decide +kernel) (Or.inr rfl)
theorem f76_48 : zft 76 48 = some (.goto (-23), 3) := fet B76 (by decide +kernel) (Or.inr rfl)
theorem f76_51 : zft 76 51 = some (.iconst 0, 1) := fet B76 (by decide +kernel) (Or.inr rfl)
theorem f76_52 : zft 76 52 = some (.istore 6, 2) := fet B76 (by decide +kernel) (Or.inr rfl)
theorem f76_54 : zft 76 54 = some (.iload 6, 2) := fet B76 (by decide +kernel) (Or.inr rfl)
theorem f76_56 : zft 76 56 = some (.iconst 3, 1) := fet B76 (by decide +kernel) (Or.inr rfl)
theorem f76_57 : zft 76 57 = some (.if_icmp .ge 23, 3) := fet B76 (by decide +kernel) (Or.inr rfl)
theorem f76_60 : zft 76 60 = some (.lload_n 3, 1) := fet B76 (by decide +kernel) (Or.inr rfl)
theorem f76_61 : zft 76 61 = some (.aload_n 0, 1) := fet B76 (by decide +kernel) (Or.inr rfl)
theorem f76_62 : zft 76 62 = some (.iload 5, 2) := fet B76 (by decide +kernel) (Or.inr rfl)
theorem f76_64 : zft 76 64 = some (.iload 6, 2) := fet B76 (by decide +kernel) (Or.inr rfl)
theorem f76_66 : zft 76 66 = some (.invokevirtual 307, 3) := fet B76 (by decide +kernel) (Or.inr rfl)
theorem f76_69 : zft 76 69 = some (.i2l, 1) := fet B76 (by decide +kernel) (Or.inr rfl)
theorem f76_70 : zft 76 70 = some (.invokestatic 275, 3) := fet B76 (by decide +kernel) (Or.inr rfl)
theorem f76_73 : zft 76 73 = some (.lstore_n 3, 1) := fet B76 (by decide +kernel) (Or.inr rfl)
theorem f76_74 : zft 76 74 = some (.iinc 6 1, 3) := fet B76 (by decide +kernel) (Or.inr rfl)
theorem f76_77 : zft 76 77 = some (.goto (-23), 3) := fet B76 (by decide +kernel) (Or.inr rfl)
theorem f76_80 : zft 76 80 = some (.lload_n 3, 1) := fet B76 (by decide +kernel) (Or.inr rfl)
theorem f76_81 : zft 76 81 = some (.aload_n 0, 1) := fet B76 (by decide +kernel) (Or.inr rfl)
theorem f76_82 : zft 76 82 = some (.iload 5, 2) := fet B76 (by decide +kernel) (Or.inr rfl)
theorem f76_84 : zft 76 84 = some (.invokevirtual 310, 3) := fet B76 (by decide +kernel) (Or.inr rfl)
theorem f76_87 : zft 76 87 = some (.i2l, 1) := fet B76 (by decide +kernel) (Or.inr rfl)
theorem f76_88 : zft 76 88 = some (.invokestatic 275, 3) := fet B76 (by decide +kernel) (Or.inr rfl)
theorem f76_91 : zft 76 91 = some (.lstore_n 3, 1) := fet B76 (by decide +kernel) (Or.inr rfl)
theorem f76_92 : zft 76 92 = some (.lload_n 3, 1) := fet B76 (by decide +kernel) (Or.inr rfl)
theorem f76_93 : zft 76 93 = some (.aload_n 0, 1) := fet B76 (by decide +kernel) (Or.inr rfl)
theorem f76_94 : zft 76 94 = some (.iload 5, 2) := fet B76 (by decide +kernel) (Or.inr rfl)
theorem f76_96 : zft 76 96 = some (.iconst 0, 1) := fet B76 (by decide +kernel) (Or.inr rfl)
theorem f76_97 : zft 76 97 = some (.invokevirtual 232, 3) := fet B76 (by decide +kernel) (Or.inr rfl)
theorem f76_100 : zft 76 100 = some (.invokestatic 275, 3) := fet B76 (by decide +kernel) (Or.inr rfl)
theorem f76_103 : zft 76 103 = some (.lstore_n 3, 1) := fet B76 (by decide +kernel) (Or.inr rfl)
theorem f76_104 : zft 76 104 = some (.lload_n 3, 1) := fet B76 (by decide +kernel) (Or.inr rfl)
theorem f76_105 : zft 76 105 = some (.aload_n 0, 1) := fet B76 (by decide +kernel) (Or.inr rfl)
theorem f76_106 : zft 76 106 = some (.iload 5, 2) := fet B76 (by decide +kernel) (Or.inr rfl)
theorem f76_108 : zft 76 108 = some (.iconst 1, 1) := fet B76 (by decide +kernel) (Or.inr rfl)
theorem f76_109 : zft 76 109 = some (.invokevirtual 232, 3) := fet B76 (by decide +kernel) (Or.inr rfl)
theorem f76_112 : zft 76 112 = some (.invokestatic 275, 3) := fet B76 (by decide +kernel) (Or.inr rfl)
theorem f76_115 : zft 76 115 = some (.lstore_n 3, 1) := fet B76 (by decide +kernel) (Or.inr rfl)
theorem f76_116 : zft 76 116 = some (.iinc 5 1, 3) := fet B76 (by decide +kernel) (Or.inr rfl)
theorem f76_119 : zft 76 119 = some (.goto (-109), 3) := fet B76 (by decide +kernel) (Or.inr rfl)
theorem f76_122 : zft 76 122 = some (.lload_n 3, 1) := fet B76 (by decide +kernel) (Or.inr rfl)
theorem f76_123 : zft 76 123 = some (.lreturn, 1) := fet B76 (by decide +kernel) (Or.inr rfl)
theorem x76_0 : Rn S 76 0 [v0, .long u, v2, v3, v4, v5, v6] st I J Q = Rn S 76 1 [v0, .long u, v2, v3, v4, v5, v6] (.long u :: st) I J Q := rL f76_0 rfl rfl
theorem x76_1 : Rn S 76 1 [v0, v1, v2, v3, v4, v5, v6] (.long u :: st) I J Q = Rn S 76 2 [v0, v1, zkl v2, .long u, .null, v5, v6] st I J Q := rL f76_1 rfl rfl
theorem x76_2 : Rn S 76 2 [.ref q, v1, v2, v3, v4, v5, v6] st I J Q = Rn S 76 3 [.ref q, v1, v2, v3, v4, v5, v6] (.ref q :: st) I J Q := rL f76_2 rfl rfl
theorem x76_3 : Rn S 76 3 [v0, v1, v2, v3, v4, v5, v6] st I J Q = Rn S 76 4 [v0, v1, v2, v3, v4, v5, v6] (.int 5 :: st) I J Q := rS f76_3 rfl
theorem x76_4 : Rn S 76 4 [v0, v1, v2, v3, v4, v5, v6] (.int a0 :: .ref q :: st) I J Q = ((zcls S q = 5 ∧ zcs st ≤ 8) ∧ Rn S 92 0 [.ref q, .int a0, .null, .null, .null, .null, .null] [] I J (fun v I' J' => Rn S 76 7 [v0, v1, v2, v3, v4, v5, v6] (v.toList ++ st) I' J' Q)) := rCV (As := [.int a0]) f76_4 rfl rfl rfl rfl (Nat.le_of_ble_eq_true rfl)
theorem x76_7 : Rn S 76 7 [v0, v1, v2, v3, v4, v5, v6] st I J Q = Rn S 76 8 [v0, v1, v2, v3, v4, v5, v6] (.int 0 :: st) I J Q := rS f76_7 rfl
theorem x76_8 : Rn S 76 8 [v0, v1, v2, v3, v4, v5, v6] (.int a :: st) I J Q = Rn S 76 10 [v0, v1, v2, v3, zkl v4, .int a, v6] st I J Q := rL f76_8 rfl rfl
theorem h76_10 : Rn S 76 10 [v0, v1, v2, v3, v4, .int a, v6] st I J Q = Rn S 76 12 [v0, v1, v2, v3, v4, .int a, v6] (.int a :: st) I J Q := rL f76_10 rfl rfl
theorem x76_12 : Rn S 76 12 [.ref q, v1, v2, v3, v4, v5, v6] st I J Q = Rn S 76 13 [.ref q, v1, v2, v3, v4, v5, v6] (.ref q :: st) I J Q := rL f76_12 rfl rfl
theorem x76_13_0 : Rn (zG xl) 76 13 [v0, v1, v2, v3, v4, v5, v6] (.ref 0 :: st) I J Q = Rn (zG xl) 76 16 [v0, v1, v2, v3, v4, v5, v6] (.ref 8 :: st) I J Q := (rGf f76_13 rfl).trans (tr_and rfl)
theorem x76_16_8 : Rn (zG xl) 76 16 [v0, v1, v2, v3, v4, v5, v6] (.ref 8 :: st) I J Q = Rn (zG xl) 76 19 [v0, v1, v2, v3, v4, v5, v6] (.int (I 8 0) :: st) I J Q := (rGf f76_16 rfl).trans (tr_and rfl)
theorem x76_16_28 : Rn (zG xl) 76 16 [v0, v1, v2, v3, v4, v5, v6] (.ref 28 :: st) I J Q = Rn (zG xl) 76 19 [v0, v1, v2, v3, v4, v5, v6] (.int (I 28 0) :: st) I J Q := (rGf f76_16 rfl).trans (tr_and rfl)
theorem x76_19 : Rn S 76 19 [v0, v1, v2, v3, v4, v5, v6] (.int b :: .int a :: st) I J Q = if a < b then Rn S 76 22 [v0, v1, v2, v3, v4, v5, v6] st I J Q else Rn S 76 122 [v0, v1, v2, v3, v4, v5, v6] st I J Q := rCge f76_19 rfl rfl
theorem x76_22 : Rn S 76 22 [v0, v1, v2, v3, v4, v5, v6] st I J Q = Rn S 76 23 [v0, v1, v2, v3, v4, v5, v6] (.int 0 :: st) I J Q := rS f76_22 rfl
theorem x76_23 : Rn S 76 23 [v0, v1, v2, v3, v4, v5, v6] (.int a :: st) I J Q = Rn S 76 25 [v0, v1, v2, v3, v4, zkl v5, .int a] st I J Q := rL f76_23 rfl rfl
theorem h76_25 : Rn S 76 25 [v0, v1, v2, v3, v4, v5, .int a] st I J Q = Rn S 76 27 [v0, v1, v2, v3, v4, v5, .int a] (.int a :: st) I J Q := rL f76_25 rfl rfl
theorem x76_27 : Rn S 76 27 [v0, v1, v2, v3, v4, v5, v6] st I J Q = Rn S 76 28 [v0, v1, v2, v3, v4, v5, v6] (.int 3 :: st) I J Q := rS f76_27 rfl
theorem x76_28 : Rn S 76 28 [v0, v1, v2, v3, v4, v5, v6] (.int b :: .int a :: st) I J Q = if a < b then Rn S 76 31 [v0, v1, v2, v3, v4, v5, v6] st I J Q else Rn S 76 51 [v0, v1, v2, v3, v4, v5, v6] st I J Q := rCge f76_28 rfl rfl
theorem x76_31 : Rn S 76 31 [v0, v1, v2, .long u, v4, v5, v6] st I J Q = Rn S 76 32 [v0, v1, v2, .long u, v4, v5, v6] (.long u :: st) I J Q := rL f76_31 rfl rfl
theorem x76_32 : Rn S 76 32 [.ref q, v1, v2, v3, v4, v5, v6] st I J Q = Rn S 76 33 [.ref q, v1, v2, v3, v4, v5, v6] (.ref q :: st) I J Q := rL f76_32 rfl rfl
theorem x76_33 : Rn S 76 33 [v0, v1, v2, v3, v4, .int a, v6] st I J Q = Rn S 76 35 [v0, v1, v2, v3, v4, .int a, v6] (.int a :: st) I J Q := rL f76_33 rfl rfl
theorem x76_35 : Rn S 76 35 [v0, v1, v2, v3, v4, v5, .int a] st I J Q = Rn S 76 37 [v0, v1, v2, v3, v4, v5, .int a] (.int a :: st) I J Q := rL f76_35 rfl rfl
theorem x76_37 : Rn S 76 37 [v0, v1, v2, v3, v4, v5, v6] (.int a1 :: .int a0 :: .ref q :: st) I J Q = ((zcls S q = 5 ∧ zcs st ≤ 8) ∧ Rn S 41 0 [.ref q, .int a0, .int a1, .null] [] I J (fun v I' J' => Rn S 76 40 [v0, v1, v2, v3, v4, v5, v6] (v.toList ++ st) I' J' Q)) := rCV (As := [.int a0, .int a1]) f76_37 rfl rfl rfl rfl (Nat.le_of_ble_eq_true rfl)
theorem x76_40 : Rn S 76 40 [v0, v1, v2, v3, v4, v5, v6] (.int a :: st) I J Q = Rn S 76 41 [v0, v1, v2, v3, v4, v5, v6] (.long a.toInt64 :: st) I J Q := rS f76_40 rfl
theorem x76_41 : Rn S 76 41 [v0, v1, v2, v3, v4, v5, v6] (.long u1 :: .long u0 :: st) I J Q = (zcs st ≤ 8 ∧ Rn S 80 0 [.long u0, .null, .long u1, .null] [] I J (fun v I' J' => Rn S 76 44 [v0, v1, v2, v3, v4, v5, v6] (v.toList ++ st) I' J' Q)) := rCS (As := [.long u0, .long u1]) f76_41 rfl rfl rfl rfl (Nat.le_of_ble_eq_true rfl)
theorem x76_44 : Rn S 76 44 [v0, v1, v2, v3, v4, v5, v6] (.long u :: st) I J Q = Rn S 76 45 [v0, v1, zkl v2, .long u, .null, v5, v6] st I J Q := rL f76_44 rfl rfl
theorem x76_45 : Rn S 76 45 [v0, v1, v2, v3, v4, v5, .int a] st I J Q = Rn S 76 48 [v0, v1, v2, v3, v4, zkl v5, .int (a + 1)] st I J Q := rL f76_45 rfl rfl
theorem x76_48 : Rn S 76 48 [v0, v1, v2, v3, v4, v5, v6] st I J Q = Rn S 76 25 [v0, v1, v2, v3, v4, v5, v6] st I J Q := rB f76_48 rfl rfl rfl
theorem x76_51 : Rn S 76 51 [v0, v1, v2, v3, v4, v5, v6] st I J Q = Rn S 76 52 [v0, v1, v2, v3, v4, v5, v6] (.int 0 :: st) I J Q := rS f76_51 rfl
theorem x76_52 : Rn S 76 52 [v0, v1, v2, v3, v4, v5, v6] (.int a :: st) I J Q = Rn S 76 54 [v0, v1, v2, v3, v4, zkl v5, .int a] st I J Q := rL f76_52 rfl rfl
theorem h76_54 : Rn S 76 54 [v0, v1, v2, v3, v4, v5, .int a] st I J Q = Rn S 76 56 [v0, v1, v2, v3, v4, v5, .int a] (.int a :: st) I J Q := rL f76_54 rfl rfl
theorem x76_56 : Rn S 76 56 [v0, v1, v2, v3, v4, v5, v6] st I J Q = Rn S 76 57 [v0, v1, v2, v3, v4, v5, v6] (.int 3 :: st) I J Q := rS f76_56 rfl
theorem x76_57 : Rn S 76 57 [v0, v1, v2, v3, v4, v5, v6] (.int b :: .int a :: st) I J Q = if a < b then Rn S 76 60 [v0, v1, v2, v3, v4, v5, v6] st I J Q else Rn S 76 80 [v0, v1, v2, v3, v4, v5, v6] st I J Q := rCge f76_57 rfl rfl
theorem x76_60 : Rn S 76 60 [v0, v1, v2, .long u, v4, v5, v6] st I J Q = Rn S 76 61 [v0, v1, v2, .long u, v4, v5, v6] (.long u :: st) I J Q := rL f76_60 rfl rfl
theorem x76_61 : Rn S 76 61 [.ref q, v1, v2, v3, v4, v5, v6] st I J Q = Rn S 76 62 [.ref q, v1, v2, v3, v4, v5, v6] (.ref q :: st) I J Q := rL f76_61 rfl rfl
theorem x76_62 : Rn S 76 62 [v0, v1, v2, v3, v4, .int a, v6] st I J Q = Rn S 76 64 [v0, v1, v2, v3, v4, .int a, v6] (.int a :: st) I J Q := rL f76_62 rfl rfl
theorem x76_64 : Rn S 76 64 [v0, v1, v2, v3, v4, v5, .int a] st I J Q = Rn S 76 66 [v0, v1, v2, v3, v4, v5, .int a] (.int a :: st) I J Q := rL f76_64 rfl rfl
theorem x76_66 : Rn S 76 66 [v0, v1, v2, v3, v4, v5, v6] (.int a1 :: .int a0 :: .ref q :: st) I J Q = ((zcls S q = 5 ∧ zcs st ≤ 8) ∧ Rn S 48 0 [.ref q, .int a0, .int a1] [] I J (fun v I' J' => Rn S 76 69 [v0, v1, v2, v3, v4, v5, v6] (v.toList ++ st) I' J' Q)) := rCV (As := [.int a0, .int a1]) f76_66 rfl rfl rfl rfl (Nat.le_of_ble_eq_true rfl)
theorem x76_69 : Rn S 76 69 [v0, v1, v2, v3, v4, v5, v6] (.int a :: st) I J Q = Rn S 76 70 [v0, v1, v2, v3, v4, v5, v6] (.long a.toInt64 :: st) I J Q := rS f76_69 rfl
theorem x76_70 : Rn S 76 70 [v0, v1, v2, v3, v4, v5, v6] (.long u1 :: .long u0 :: st) I J Q = (zcs st ≤ 8 ∧ Rn S 80 0 [.long u0, .null, .long u1, .null] [] I J (fun v I' J' => Rn S 76 73 [v0, v1, v2, v3, v4, v5, v6] (v.toList ++ st) I' J' Q)) := rCS (As := [.long u0, .long u1]) f76_70 rfl rfl rfl rfl (Nat.le_of_ble_eq_true rfl)
theorem x76_73 : Rn S 76 73 [v0, v1, v2, v3, v4, v5, v6] (.long u :: st) I J Q = Rn S 76 74 [v0, v1, zkl v2, .long u, .null, v5, v6] st I J Q := rL f76_73 rfl rfl
theorem x76_74 : Rn S 76 74 [v0, v1, v2, v3, v4, v5, .int a] st I J Q = Rn S 76 77 [v0, v1, v2, v3, v4, zkl v5, .int (a + 1)] st I J Q := rL f76_74 rfl rfl
theorem x76_77 : Rn S 76 77 [v0, v1, v2, v3, v4, v5, v6] st I J Q = Rn S 76 54 [v0, v1, v2, v3, v4, v5, v6] st I J Q := rB f76_77 rfl rfl rfl
theorem x76_80 : Rn S 76 80 [v0, v1, v2, .long u, v4, v5, v6] st I J Q = Rn S 76 81 [v0, v1, v2, .long u, v4, v5, v6] (.long u :: st) I J Q := rL f76_80 rfl rfl
theorem x76_81 : Rn S 76 81 [.ref q, v1, v2, v3, v4, v5, v6] st I J Q = Rn S 76 82 [.ref q, v1, v2, v3, v4, v5, v6] (.ref q :: st) I J Q := rL f76_81 rfl rfl
theorem x76_82 : Rn S 76 82 [v0, v1, v2, v3, v4, .int a, v6] st I J Q = Rn S 76 84 [v0, v1, v2, v3, v4, .int a, v6] (.int a :: st) I J Q := rL f76_82 rfl rfl
theorem x76_84 : Rn S 76 84 [v0, v1, v2, v3, v4, v5, v6] (.int a0 :: .ref q :: st) I J Q = ((zcls S q = 5 ∧ zcs st ≤ 8) ∧ Rn S 63 0 [.ref q, .int a0, .null, .null] [] I J (fun v I' J' => Rn S 76 87 [v0, v1, v2, v3, v4, v5, v6] (v.toList ++ st) I' J' Q)) := rCV (As := [.int a0]) f76_84 rfl rfl rfl rfl (Nat.le_of_ble_eq_true rfl)
theorem x76_87 : Rn S 76 87 [v0, v1, v2, v3, v4, v5, v6] (.int a :: st) I J Q = Rn S 76 88 [v0, v1, v2, v3, v4, v5, v6] (.long a.toInt64 :: st) I J Q := rS f76_87 rfl
theorem x76_88 : Rn S 76 88 [v0, v1, v2, v3, v4, v5, v6] (.long u1 :: .long u0 :: st) I J Q = (zcs st ≤ 8 ∧ Rn S 80 0 [.long u0, .null, .long u1, .null] [] I J (fun v I' J' => Rn S 76 91 [v0, v1, v2, v3, v4, v5, v6] (v.toList ++ st) I' J' Q)) := rCS (As := [.long u0, .long u1]) f76_88 rfl rfl rfl rfl (Nat.le_of_ble_eq_true rfl)
theorem x76_91 : Rn S 76 91 [v0, v1, v2, v3, v4, v5, v6] (.long u :: st) I J Q = Rn S 76 92 [v0, v1, zkl v2, .long u, .null, v5, v6] st I J Q := rL f76_91 rfl rfl
theorem x76_92 : Rn S 76 92 [v0, v1, v2, .long u, v4, v5, v6] st I J Q = Rn S 76 93 [v0, v1, v2, .long u, v4, v5, v6] (.long u :: st) I J Q := rL f76_92 rfl rfl
theorem x76_93 : Rn S 76 93 [.ref q, v1, v2, v3, v4, v5, v6] st I J Q = Rn S 76 94 [.ref q, v1, v2, v3, v4, v5, v6] (.ref q :: st) I J Q := rL f76_93 rfl rfl
theorem x76_94 : Rn S 76 94 [v0, v1, v2, v3, v4, .int a, v6] st I J Q = Rn S 76 96 [v0, v1, v2, v3, v4, .int a, v6] (.int a :: st) I J Q := rL f76_94 rfl rfl
theorem x76_96 : Rn S 76 96 [v0, v1, v2, v3, v4, v5, v6] st I J Q = Rn S 76 97 [v0, v1, v2, v3, v4, v5, v6] (.int 0 :: st) I J Q := rS f76_96 rfl
theorem x76_97 : Rn S 76 97 [v0, v1, v2, v3, v4, v5, v6] (.int a1 :: .int a0 :: .ref q :: st) I J Q = ((zcls S q = 5 ∧ zcs st ≤ 8) ∧ Rn S 94 0 [.ref q, .int a0, .int a1, .null, .null, .null, .null, .null, .null] [] I J (fun v I' J' => Rn S 76 100 [v0, v1, v2, v3, v4, v5, v6] (v.toList ++ st) I' J' Q)) := rCV (As := [.int a0, .int a1]) f76_97 rfl rfl rfl rfl (Nat.le_of_ble_eq_true rfl)
theorem x76_100 : Rn S 76 100 [v0, v1, v2, v3, v4, v5, v6] (.long u1 :: .long u0 :: st) I J Q = (zcs st ≤ 8 ∧ Rn S 80 0 [.long u0, .null, .long u1, .null] [] I J (fun v I' J' => Rn S 76 103 [v0, v1, v2, v3, v4, v5, v6] (v.toList ++ st) I' J' Q)) := rCS (As := [.long u0, .long u1]) f76_100 rfl rfl rfl rfl (Nat.le_of_ble_eq_true rfl)
theorem x76_103 : Rn S 76 103 [v0, v1, v2, v3, v4, v5, v6] (.long u :: st) I J Q = Rn S 76 104 [v0, v1, zkl v2, .long u, .null, v5, v6] st I J Q := rL f76_103 rfl rfl
theorem x76_104 : Rn S 76 104 [v0, v1, v2, .long u, v4, v5, v6] st I J Q = Rn S 76 105 [v0, v1, v2, .long u, v4, v5, v6] (.long u :: st) I J Q := rL f76_104 rfl rfl
theorem x76_105 : Rn S 76 105 [.ref q, v1, v2, v3, v4, v5, v6] st I J Q = Rn S 76 106 [.ref q, v1, v2, v3, v4, v5, v6] (.ref q :: st) I J Q := rL f76_105 rfl rfl
theorem x76_106 : Rn S 76 106 [v0, v1, v2, v3, v4, .int a, v6] st I J Q = Rn S 76 108 [v0, v1, v2, v3, v4, .int a, v6] (.int a :: st) I J Q := rL f76_106 rfl rfl
theorem x76_108 : Rn S 76 108 [v0, v1, v2, v3, v4, v5, v6] st I J Q = Rn S 76 109 [v0, v1, v2, v3, v4, v5, v6] (.int 1 :: st) I J Q := rS f76_108 rfl
theorem x76_109 : Rn S 76 109 [v0, v1, v2, v3, v4, v5, v6] (.int a1 :: .int a0 :: .ref q :: st) I J Q = ((zcls S q = 5 ∧ zcs st ≤ 8) ∧ Rn S 94 0 [.ref q, .int a0, .int a1, .null, .null, .null, .null, .null, .null] [] I J (fun v I' J' => Rn S 76 112 [v0, v1, v2, v3, v4, v5, v6] (v.toList ++ st) I' J' Q)) := rCV (As := [.int a0, .int a1]) f76_109 rfl rfl rfl rfl (Nat.le_of_ble_eq_true rfl)
theorem x76_112 : Rn S 76 112 [v0, v1, v2, v3, v4, v5, v6] (.long u1 :: .long u0 :: st) I J Q = (zcs st ≤ 8 ∧ Rn S 80 0 [.long u0, .null, .long u1, .null] [] I J (fun v I' J' => Rn S 76 115 [v0, v1, v2, v3, v4, v5, v6] (v.toList ++ st) I' J' Q)) := rCS (As := [.long u0, .long u1]) f76_112 rfl rfl rfl rfl (Nat.le_of_ble_eq_true rfl)
theorem x76_115 : Rn S 76 115 [v0, v1, v2, v3, v4, v5, v6] (.long u :: st) I J Q = Rn S 76 116 [v0, v1, zkl v2, .long u, .null, v5, v6] st I J Q := rL f76_115 rfl rfl
theorem x76_116 : Rn S 76 116 [v0, v1, v2, v3, v4, .int a, v6] st I J Q = Rn S 76 119 [v0, v1, v2, v3, zkl v4, .int (a + 1), v6] st I J Q := rL f76_116 rfl rfl
theorem x76_119 : Rn S 76 119 [v0, v1, v2, v3, v4, v5, v6] st I J Q = Rn S 76 10 [v0, v1, v2, v3, v4, v5, v6] st I J Q := rB f76_119 rfl rfl rfl
theorem x76_122 : Rn S 76 122 [v0, v1, v2, .long u, v4, v5, v6] st I J Q = Rn S 76 123 [v0, v1, v2, .long u, v4, v5, v6] (.long u :: st) I J Q := rL f76_122 rfl rfl
theorem x76_123 : Rn S 76 123 [v0, v1, v2, v3, v4, v5, v6] [.long u] I J Q = Q (some (.long u)) I J := rR f76_123 rfl rfl rfl rfl rfl
/-! X5.digestReaders: 77 -/
theorem B77 : zB 77 = cX5_digestReaders := rfl
theorem f77_0 : zft 77 0 = some (.lload_n 1, 1) := fet B77 (by decide +kernel) (Or.inr rfl)
theorem f77_1 : zft 77 1 = some (.lstore_n 3, 1) := fet B77 (by decide +kernel) (Or.inr rfl)
theorem f77_2 : zft 77 2 = some (.iconst 0, 1) := fet B77 (by decide +kernel) (Or.inr rfl)
theorem f77_3 : zft 77 3 = some (.istore 5, 2) := fet B77 (by decide +kernel) (Or.inr rfl)
theorem f77_5 : zft 77 5 = some (.iload 5, 2) := fet B77 (by decide +kernel) (Or.inr rfl)
theorem f77_7 : zft 77 7 = some (.aload_n 0, 1) := fet B77 (by decide +kernel) (Or.inr rfl)
theorem f77_8 : zft 77 8 = some (.getfield 27, 3) := fet B77 (by decide +kernel) (Or.inr rfl)
theorem f77_11 : zft 77 11 = some (.getfield 102, 3) := fet B77 (by decide +kernel) (Or.inr rfl)
theorem f77_14 : zft 77 14 = some (.if_icmp .ge 88, 3) := fet B77 (by decide +kernel) (Or.inr rfl)
theorem f77_17 : zft 77 17 = some (.lload_n 3, 1) := fet B77 (by decide +kernel) (Or.inr rfl)
theorem f77_18 : zft 77 18 = some (.aload_n 0, 1) := fet B77 (by decide +kernel) (Or.inr rfl)
theorem f77_19 : zft 77 19 = some (.iload 5, 2) := fet B77 (by decide +kernel) (Or.inr rfl)
theorem f77_21 : zft 77 21 = some (.iconst 0, 1) := fet B77 (by decide +kernel) (Or.inr rfl)
theorem f77_22 : zft 77 22 = some (.invokevirtual 313, 3) := fet B77 (by decide +kernel) (Or.inr rfl)
theorem f77_25 : zft 77 25 = some (.i2l, 1) := fet B77 (by decide +kernel) (Or.inr rfl)
theorem f77_26 : zft 77 26 = some (.invokestatic 275, 3) := fet B77 (by decide +kernel) (Or.inr rfl)
theorem f77_29 : zft 77 29 = some (.lstore_n 3, 1) := fet B77 (by decide +kernel) (Or.inr rfl)
theorem f77_30 : zft 77 30 = some (.lload_n 3, 1) := fet B77 (by decide +kernel) (Or.inr rfl)
theorem f77_31 : zft 77 31 = some (.aload_n 0, 1) := fet B77 (by decide +kernel) (Or.inr rfl)
theorem f77_32 : zft 77 32 = some (.iload 5, 2) := fet B77 (by decide +kernel) (Or.inr rfl)
theorem f77_34 : zft 77 34 = some (.iconst 1, 1) := fet B77 (by decide +kernel) (Or.inr rfl)
theorem f77_35 : zft 77 35 = some (.invokevirtual 313, 3) := fet B77 (by decide +kernel) (Or.inr rfl)
theorem f77_38 : zft 77 38 = some (.i2l, 1) := fet B77 (by decide +kernel) (Or.inr rfl)
theorem f77_39 : zft 77 39 = some (.invokestatic 275, 3) := fet B77 (by decide +kernel) (Or.inr rfl)
theorem f77_42 : zft 77 42 = some (.lstore_n 3, 1) := fet B77 (by decide +kernel) (Or.inr rfl)
theorem f77_43 : zft 77 43 = some (.iconst 0, 1) := fet B77 (by decide +kernel) (Or.inr rfl)
theorem f77_44 : zft 77 44 = some (.istore 6, 2) := fet B77 (by decide +kernel) (Or.inr rfl)
theorem f77_46 : zft 77 46 = some (.iload 6, 2) := fet B77 (by decide +kernel) (Or.inr rfl)
theorem f77_48 : zft 77 48 = some (.iconst 4, 1) := fet B77 (by decide +kernel) (Or.inr rfl)
theorem f77_49 : zft 77 49 = some (.if_icmp .ge 23, 3) := fet B77 (by decide +kernel) (Or.inr rfl)
theorem f77_52 : zft 77 52 = some (.lload_n 3, 1) := fet B77 (by decide +kernel) (Or.inr rfl)
theorem f77_53 : zft 77 53 = some (.aload_n 0, 1) := fet B77 (by decide +kernel) (Or.inr rfl)
theorem f77_54 : zft 77 54 = some (.iload 5, 2) := fet B77 (by decide +kernel) (Or.inr rfl)
theorem f77_56 : zft 77 56 = some (.iload 6, 2) := fet B77 (by decide +kernel) (Or.inr rfl)
theorem f77_58 : zft 77 58 = some (.invokevirtual 316, 3) := fet B77 (by decide +kernel) (Or.inr rfl)
theorem f77_61 : zft 77 61 = some (.i2l, 1) := fet B77 (by decide +kernel) (Or.inr rfl)
theorem f77_62 : zft 77 62 = some (.invokestatic 275, 3) := fet B77 (by decide +kernel) (Or.inr rfl)
theorem f77_65 : zft 77 65 = some (.lstore_n 3, 1) := fet B77 (by decide +kernel) (Or.inr rfl)
theorem f77_66 : zft 77 66 = some (.iinc 6 1, 3) := fet B77 (by decide +kernel) (Or.inr rfl)
theorem f77_69 : zft 77 69 = some (.goto (-23), 3) := fet B77 (by decide +kernel) (Or.inr rfl)
theorem f77_72 : zft 77 72 = some (.lload_n 3, 1) := fet B77 (by decide +kernel) (Or.inr rfl)
theorem f77_73 : zft 77 73 = some (.aload_n 0, 1) := fet B77 (by decide +kernel) (Or.inr rfl)
theorem f77_74 : zft 77 74 = some (.iload 5, 2) := fet B77 (by decide +kernel) (Or.inr rfl)
theorem f77_76 : zft 77 76 = some (.invokevirtual 319, 3) := fet B77 (by decide +kernel) (Or.inr rfl)
theorem f77_79 : zft 77 79 = some (.i2l, 1) := fet B77 (by decide +kernel) (Or.inr rfl)
theorem f77_80 : zft 77 80 = some (.invokestatic 275, 3) := fet B77 (by decide +kernel) (Or.inr rfl)
theorem f77_83 : zft 77 83 = some (.lstore_n 3, 1) := fet B77 (by decide +kernel) (Or.inr rfl)
theorem f77_84 : zft 77 84 = some (.lload_n 3, 1) := fet B77 (by decide +kernel) (Or.inr rfl)
theorem f77_85 : zft 77 85 = some (.aload_n 0, 1) := fet B77 (by decide +kernel) (Or.inr rfl)
theorem f77_86 : zft 77 86 = some (.iload 5, 2) := fet B77 (by decide +kernel) (Or.inr rfl)
theorem f77_88 : zft 77 88 = some (.invokevirtual 322, 3) := fet B77 (by decide +kernel) (Or.inr rfl)
theorem f77_91 : zft 77 91 = some (.i2l, 1) := fet B77 (by decide +kernel) (Or.inr rfl)
theorem f77_92 : zft 77 92 = some (.invokestatic 275, 3) := fet B77 (by decide +kernel) (Or.inr rfl)
theorem f77_95 : zft 77 95 = some (.lstore_n 3, 1) := fet B77 (by decide +kernel) (Or.inr rfl)
theorem f77_96 : zft 77 96 = some (.iinc 5 1, 3) := fet B77 (by decide +kernel) (Or.inr rfl)
theorem f77_99 : zft 77 99 = some (.goto (-94), 3) := fet B77 (by decide +kernel) (Or.inr rfl)
theorem f77_102 : zft 77 102 = some (.lload_n 3, 1) := fet B77 (by decide +kernel) (Or.inr rfl)
theorem f77_103 : zft 77 103 = some (.lreturn, 1) := fet B77 (by decide +kernel) (Or.inr rfl)
theorem x77_0 : Rn S 77 0 [v0, .long u, v2, v3, v4, v5, v6] st I J Q = Rn S 77 1 [v0, .long u, v2, v3, v4, v5, v6] (.long u :: st) I J Q := rL f77_0 rfl rfl
theorem x77_1 : Rn S 77 1 [v0, v1, v2, v3, v4, v5, v6] (.long u :: st) I J Q = Rn S 77 2 [v0, v1, zkl v2, .long u, .null, v5, v6] st I J Q := rL f77_1 rfl rfl
theorem x77_2 : Rn S 77 2 [v0, v1, v2, v3, v4, v5, v6] st I J Q = Rn S 77 3 [v0, v1, v2, v3, v4, v5, v6] (.int 0 :: st) I J Q := rS f77_2 rfl
theorem x77_3 : Rn S 77 3 [v0, v1, v2, v3, v4, v5, v6] (.int a :: st) I J Q = Rn S 77 5 [v0, v1, v2, v3, zkl v4, .int a, v6] st I J Q := rL f77_3 rfl rfl
theorem h77_5 : Rn S 77 5 [v0, v1, v2, v3, v4, .int a, v6] st I J Q = Rn S 77 7 [v0, v1, v2, v3, v4, .int a, v6] (.int a :: st) I J Q := rL f77_5 rfl rfl
theorem x77_7 : Rn S 77 7 [.ref q, v1, v2, v3, v4, v5, v6] st I J Q = Rn S 77 8 [.ref q, v1, v2, v3, v4, v5, v6] (.ref q :: st) I J Q := rL f77_7 rfl rfl
theorem x77_8_0 : Rn (zG xl) 77 8 [v0, v1, v2, v3, v4, v5, v6] (.ref 0 :: st) I J Q = Rn (zG xl) 77 11 [v0, v1, v2, v3, v4, v5, v6] (.ref 8 :: st) I J Q := (rGf f77_8 rfl).trans (tr_and rfl)
theorem x77_11_8 : Rn (zG xl) 77 11 [v0, v1, v2, v3, v4, v5, v6] (.ref 8 :: st) I J Q = Rn (zG xl) 77 14 [v0, v1, v2, v3, v4, v5, v6] (.int (I 8 3) :: st) I J Q := (rGf f77_11 rfl).trans (tr_and rfl)
theorem x77_11_28 : Rn (zG xl) 77 11 [v0, v1, v2, v3, v4, v5, v6] (.ref 28 :: st) I J Q = Rn (zG xl) 77 14 [v0, v1, v2, v3, v4, v5, v6] (.int (I 28 3) :: st) I J Q := (rGf f77_11 rfl).trans (tr_and rfl)
theorem x77_14 : Rn S 77 14 [v0, v1, v2, v3, v4, v5, v6] (.int b :: .int a :: st) I J Q = if a < b then Rn S 77 17 [v0, v1, v2, v3, v4, v5, v6] st I J Q else Rn S 77 102 [v0, v1, v2, v3, v4, v5, v6] st I J Q := rCge f77_14 rfl rfl
theorem x77_17 : Rn S 77 17 [v0, v1, v2, .long u, v4, v5, v6] st I J Q = Rn S 77 18 [v0, v1, v2, .long u, v4, v5, v6] (.long u :: st) I J Q := rL f77_17 rfl rfl
theorem x77_18 : Rn S 77 18 [.ref q, v1, v2, v3, v4, v5, v6] st I J Q = Rn S 77 19 [.ref q, v1, v2, v3, v4, v5, v6] (.ref q :: st) I J Q := rL f77_18 rfl rfl
theorem x77_19 : Rn S 77 19 [v0, v1, v2, v3, v4, .int a, v6] st I J Q = Rn S 77 21 [v0, v1, v2, v3, v4, .int a, v6] (.int a :: st) I J Q := rL f77_19 rfl rfl
theorem x77_21 : Rn S 77 21 [v0, v1, v2, v3, v4, v5, v6] st I J Q = Rn S 77 22 [v0, v1, v2, v3, v4, v5, v6] (.int 0 :: st) I J Q := rS f77_21 rfl
theorem x77_22 : Rn S 77 22 [v0, v1, v2, v3, v4, v5, v6] (.int a1 :: .int a0 :: .ref q :: st) I J Q = ((zcls S q = 5 ∧ zcs st ≤ 8) ∧ Rn S 42 0 [.ref q, .int a0, .int a1] [] I J (fun v I' J' => Rn S 77 25 [v0, v1, v2, v3, v4, v5, v6] (v.toList ++ st) I' J' Q)) := rCV (As := [.int a0, .int a1]) f77_22 rfl rfl rfl rfl (Nat.le_of_ble_eq_true rfl)
theorem x77_25 : Rn S 77 25 [v0, v1, v2, v3, v4, v5, v6] (.int a :: st) I J Q = Rn S 77 26 [v0, v1, v2, v3, v4, v5, v6] (.long a.toInt64 :: st) I J Q := rS f77_25 rfl
theorem x77_26 : Rn S 77 26 [v0, v1, v2, v3, v4, v5, v6] (.long u1 :: .long u0 :: st) I J Q = (zcs st ≤ 8 ∧ Rn S 80 0 [.long u0, .null, .long u1, .null] [] I J (fun v I' J' => Rn S 77 29 [v0, v1, v2, v3, v4, v5, v6] (v.toList ++ st) I' J' Q)) := rCS (As := [.long u0, .long u1]) f77_26 rfl rfl rfl rfl (Nat.le_of_ble_eq_true rfl)
theorem x77_29 : Rn S 77 29 [v0, v1, v2, v3, v4, v5, v6] (.long u :: st) I J Q = Rn S 77 30 [v0, v1, zkl v2, .long u, .null, v5, v6] st I J Q := rL f77_29 rfl rfl
theorem x77_30 : Rn S 77 30 [v0, v1, v2, .long u, v4, v5, v6] st I J Q = Rn S 77 31 [v0, v1, v2, .long u, v4, v5, v6] (.long u :: st) I J Q := rL f77_30 rfl rfl
theorem x77_31 : Rn S 77 31 [.ref q, v1, v2, v3, v4, v5, v6] st I J Q = Rn S 77 32 [.ref q, v1, v2, v3, v4, v5, v6] (.ref q :: st) I J Q := rL f77_31 rfl rfl
theorem x77_32 : Rn S 77 32 [v0, v1, v2, v3, v4, .int a, v6] st I J Q = Rn S 77 34 [v0, v1, v2, v3, v4, .int a, v6] (.int a :: st) I J Q := rL f77_32 rfl rfl
theorem x77_34 : Rn S 77 34 [v0, v1, v2, v3, v4, v5, v6] st I J Q = Rn S 77 35 [v0, v1, v2, v3, v4, v5, v6] (.int 1 :: st) I J Q := rS f77_34 rfl
theorem x77_35 : Rn S 77 35 [v0, v1, v2, v3, v4, v5, v6] (.int a1 :: .int a0 :: .ref q :: st) I J Q = ((zcls S q = 5 ∧ zcs st ≤ 8) ∧ Rn S 42 0 [.ref q, .int a0, .int a1] [] I J (fun v I' J' => Rn S 77 38 [v0, v1, v2, v3, v4, v5, v6] (v.toList ++ st) I' J' Q)) := rCV (As := [.int a0, .int a1]) f77_35 rfl rfl rfl rfl (Nat.le_of_ble_eq_true rfl)
theorem x77_38 : Rn S 77 38 [v0, v1, v2, v3, v4, v5, v6] (.int a :: st) I J Q = Rn S 77 39 [v0, v1, v2, v3, v4, v5, v6] (.long a.toInt64 :: st) I J Q := rS f77_38 rfl
theorem x77_39 : Rn S 77 39 [v0, v1, v2, v3, v4, v5, v6] (.long u1 :: .long u0 :: st) I J Q = (zcs st ≤ 8 ∧ Rn S 80 0 [.long u0, .null, .long u1, .null] [] I J (fun v I' J' => Rn S 77 42 [v0, v1, v2, v3, v4, v5, v6] (v.toList ++ st) I' J' Q)) := rCS (As := [.long u0, .long u1]) f77_39 rfl rfl rfl rfl (Nat.le_of_ble_eq_true rfl)
theorem x77_42 : Rn S 77 42 [v0, v1, v2, v3, v4, v5, v6] (.long u :: st) I J Q = Rn S 77 43 [v0, v1, zkl v2, .long u, .null, v5, v6] st I J Q := rL f77_42 rfl rfl
theorem x77_43 : Rn S 77 43 [v0, v1, v2, v3, v4, v5, v6] st I J Q = Rn S 77 44 [v0, v1, v2, v3, v4, v5, v6] (.int 0 :: st) I J Q := rS f77_43 rfl
theorem x77_44 : Rn S 77 44 [v0, v1, v2, v3, v4, v5, v6] (.int a :: st) I J Q = Rn S 77 46 [v0, v1, v2, v3, v4, zkl v5, .int a] st I J Q := rL f77_44 rfl rfl
theorem h77_46 : Rn S 77 46 [v0, v1, v2, v3, v4, v5, .int a] st I J Q = Rn S 77 48 [v0, v1, v2, v3, v4, v5, .int a] (.int a :: st) I J Q := rL f77_46 rfl rfl
theorem x77_48 : Rn S 77 48 [v0, v1, v2, v3, v4, v5, v6] st I J Q = Rn S 77 49 [v0, v1, v2, v3, v4, v5, v6] (.int 4 :: st) I J Q := rS f77_48 rfl
theorem x77_49 : Rn S 77 49 [v0, v1, v2, v3, v4, v5, v6] (.int b :: .int a :: st) I J Q = if a < b then Rn S 77 52 [v0, v1, v2, v3, v4, v5, v6] st I J Q else Rn S 77 72 [v0, v1, v2, v3, v4, v5, v6] st I J Q := rCge f77_49 rfl rfl
theorem x77_52 : Rn S 77 52 [v0, v1, v2, .long u, v4, v5, v6] st I J Q = Rn S 77 53 [v0, v1, v2, .long u, v4, v5, v6] (.long u :: st) I J Q := rL f77_52 rfl rfl
theorem x77_53 : Rn S 77 53 [.ref q, v1, v2, v3, v4, v5, v6] st I J Q = Rn S 77 54 [.ref q, v1, v2, v3, v4, v5, v6] (.ref q :: st) I J Q := rL f77_53 rfl rfl
theorem x77_54 : Rn S 77 54 [v0, v1, v2, v3, v4, .int a, v6] st I J Q = Rn S 77 56 [v0, v1, v2, v3, v4, .int a, v6] (.int a :: st) I J Q := rL f77_54 rfl rfl
theorem x77_56 : Rn S 77 56 [v0, v1, v2, v3, v4, v5, .int a] st I J Q = Rn S 77 58 [v0, v1, v2, v3, v4, v5, .int a] (.int a :: st) I J Q := rL f77_56 rfl rfl
theorem x77_58 : Rn S 77 58 [v0, v1, v2, v3, v4, v5, v6] (.int a1 :: .int a0 :: .ref q :: st) I J Q = ((zcls S q = 5 ∧ zcs st ≤ 8) ∧ Rn S 49 0 [.ref q, .int a0, .int a1] [] I J (fun v I' J' => Rn S 77 61 [v0, v1, v2, v3, v4, v5, v6] (v.toList ++ st) I' J' Q)) := rCV (As := [.int a0, .int a1]) f77_58 rfl rfl rfl rfl (Nat.le_of_ble_eq_true rfl)
theorem x77_61 : Rn S 77 61 [v0, v1, v2, v3, v4, v5, v6] (.int a :: st) I J Q = Rn S 77 62 [v0, v1, v2, v3, v4, v5, v6] (.long a.toInt64 :: st) I J Q := rS f77_61 rfl
theorem x77_62 : Rn S 77 62 [v0, v1, v2, v3, v4, v5, v6] (.long u1 :: .long u0 :: st) I J Q = (zcs st ≤ 8 ∧ Rn S 80 0 [.long u0, .null, .long u1, .null] [] I J (fun v I' J' => Rn S 77 65 [v0, v1, v2, v3, v4, v5, v6] (v.toList ++ st) I' J' Q)) := rCS (As := [.long u0, .long u1]) f77_62 rfl rfl rfl rfl (Nat.le_of_ble_eq_true rfl)
theorem x77_65 : Rn S 77 65 [v0, v1, v2, v3, v4, v5, v6] (.long u :: st) I J Q = Rn S 77 66 [v0, v1, zkl v2, .long u, .null, v5, v6] st I J Q := rL f77_65 rfl rfl
theorem x77_66 : Rn S 77 66 [v0, v1, v2, v3, v4, v5, .int a] st I J Q = Rn S 77 69 [v0, v1, v2, v3, v4, zkl v5, .int (a + 1)] st I J Q := rL f77_66 rfl rfl
theorem x77_69 : Rn S 77 69 [v0, v1, v2, v3, v4, v5, v6] st I J Q = Rn S 77 46 [v0, v1, v2, v3, v4, v5, v6] st I J Q := rB f77_69 rfl rfl rfl
theorem x77_72 : Rn S 77 72 [v0, v1, v2, .long u, v4, v5, v6] st I J Q = Rn S 77 73 [v0, v1, v2, .long u, v4, v5, v6] (.long u :: st) I J Q := rL f77_72 rfl rfl
theorem x77_73 : Rn S 77 73 [.ref q, v1, v2, v3, v4, v5, v6] st I J Q = Rn S 77 74 [.ref q, v1, v2, v3, v4, v5, v6] (.ref q :: st) I J Q := rL f77_73 rfl rfl
theorem x77_74 : Rn S 77 74 [v0, v1, v2, v3, v4, .int a, v6] st I J Q = Rn S 77 76 [v0, v1, v2, v3, v4, .int a, v6] (.int a :: st) I J Q := rL f77_74 rfl rfl
theorem x77_76 : Rn S 77 76 [v0, v1, v2, v3, v4, v5, v6] (.int a0 :: .ref q :: st) I J Q = ((zcls S q = 5 ∧ zcs st ≤ 8) ∧ Rn S 62 0 [.ref q, .int a0] [] I J (fun v I' J' => Rn S 77 79 [v0, v1, v2, v3, v4, v5, v6] (v.toList ++ st) I' J' Q)) := rCV (As := [.int a0]) f77_76 rfl rfl rfl rfl (Nat.le_of_ble_eq_true rfl)
theorem x77_79 : Rn S 77 79 [v0, v1, v2, v3, v4, v5, v6] (.int a :: st) I J Q = Rn S 77 80 [v0, v1, v2, v3, v4, v5, v6] (.long a.toInt64 :: st) I J Q := rS f77_79 rfl
theorem x77_80 : Rn S 77 80 [v0, v1, v2, v3, v4, v5, v6] (.long u1 :: .long u0 :: st) I J Q = (zcs st ≤ 8 ∧ Rn S 80 0 [.long u0, .null, .long u1, .null] [] I J (fun v I' J' => Rn S 77 83 [v0, v1, v2, v3, v4, v5, v6] (v.toList ++ st) I' J' Q)) := rCS (As := [.long u0, .long u1]) f77_80 rfl rfl rfl rfl (Nat.le_of_ble_eq_true rfl)
theorem x77_83 : Rn S 77 83 [v0, v1, v2, v3, v4, v5, v6] (.long u :: st) I J Q = Rn S 77 84 [v0, v1, zkl v2, .long u, .null, v5, v6] st I J Q := rL f77_83 rfl rfl
theorem x77_84 : Rn S 77 84 [v0, v1, v2, .long u, v4, v5, v6] st I J Q = Rn S 77 85 [v0, v1, v2, .long u, v4, v5, v6] (.long u :: st) I J Q := rL f77_84 rfl rfl
theorem x77_85 : Rn S 77 85 [.ref q, v1, v2, v3, v4, v5, v6] st I J Q = Rn S 77 86 [.ref q, v1, v2, v3, v4, v5, v6] (.ref q :: st) I J Q := rL f77_85 rfl rfl
theorem x77_86 : Rn S 77 86 [v0, v1, v2, v3, v4, .int a, v6] st I J Q = Rn S 77 88 [v0, v1, v2, v3, v4, .int a, v6] (.int a :: st) I J Q := rL f77_86 rfl rfl
theorem x77_88 : Rn S 77 88 [v0, v1, v2, v3, v4, v5, v6] (.int a0 :: .ref q :: st) I J Q = ((zcls S q = 5 ∧ zcs st ≤ 8) ∧ Rn S 64 0 [.ref q, .int a0, .null, .null, .null, .null, .null] [] I J (fun v I' J' => Rn S 77 91 [v0, v1, v2, v3, v4, v5, v6] (v.toList ++ st) I' J' Q)) := rCV (As := [.int a0]) f77_88 rfl rfl rfl rfl (Nat.le_of_ble_eq_true rfl)
theorem x77_91 : Rn S 77 91 [v0, v1, v2, v3, v4, v5, v6] (.int a :: st) I J Q = Rn S 77 92 [v0, v1, v2, v3, v4, v5, v6] (.long a.toInt64 :: st) I J Q := rS f77_91 rfl
theorem x77_92 : Rn S 77 92 [v0, v1, v2, v3, v4, v5, v6] (.long u1 :: .long u0 :: st) I J Q = (zcs st ≤ 8 ∧ Rn S 80 0 [.long u0, .null, .long u1, .null] [] I J (fun v I' J' => Rn S 77 95 [v0, v1, v2, v3, v4, v5, v6] (v.toList ++ st) I' J' Q)) := rCS (As := [.long u0, .long u1]) f77_92 rfl rfl rfl rfl (Nat.le_of_ble_eq_true rfl)
theorem x77_95 : Rn S 77 95 [v0, v1, v2, v3, v4, v5, v6] (.long u :: st) I J Q = Rn S 77 96 [v0, v1, zkl v2, .long u, .null, v5, v6] st I J Q := rL f77_95 rfl rfl
theorem x77_96 : Rn S 77 96 [v0, v1, v2, v3, v4, .int a, v6] st I J Q = Rn S 77 99 [v0, v1, v2, v3, zkl v4, .int (a + 1), v6] st I J Q := rL f77_96 rfl rfl
theorem x77_99 : Rn S 77 99 [v0, v1, v2, v3, v4, v5, v6] st I J Q = Rn S 77 5 [v0, v1, v2, v3, v4, v5, v6] st I J Q := rB f77_99 rfl rfl rfl
theorem x77_102 : Rn S 77 102 [v0, v1, v2, .long u, v4, v5, v6] st I J Q = Rn S 77 103 [v0, v1, v2, .long u, v4, v5, v6] (.long u :: st) I J Q := rL f77_102 rfl rfl
theorem x77_103 : Rn S 77 103 [v0, v1, v2, v3, v4, v5, v6] [.long u] I J Q = Q (some (.long u)) I J := rR f77_103 rfl rfl rfl rfl rfl
/-! X5.digestPlans: 78 -/
theorem B78 : zB 78 = cX5_digestPlans := rfl
theorem f78_0 : zft 78 0 = some (.lload_n 1, 1) := fet B78 (by decide +kernel) (Or.inr rfl)
theorem f78_1 : zft 78 1 = some (.aload_n 0, 1) := fet B78 (by decide +kernel) (Or.inr rfl)
theorem f78_2 : zft 78 2 = some (.invokevirtual 325, 3) := fet B78 (by decide +kernel) (Or.inr rfl)
theorem f78_5 : zft 78 5 = some (.i2l, 1) := fet B78 (by decide +kernel) (Or.inr rfl)
theorem f78_6 : zft 78 6 = some (.invokestatic 275, 3) := fet B78 (by decide +kernel) (Or.inr rfl)
theorem f78_9 : zft 78 9 = some (.lstore_n 3, 1) := fet B78 (by decide +kernel) (Or.inr rfl)
theorem f78_10 : zft 78 10 = some (.lload_n 3, 1) := fet B78 (by decide +kernel) (Or.inr rfl)
theorem f78_11 : zft 78 11 = some (.aload_n 0, 1) := fet B78 (by decide +kernel) (Or.inr rfl)
theorem f78_12 : zft 78 12 = some (.invokevirtual 328, 3) := fet B78 (by decide +kernel) (Or.inr rfl)
theorem f78_15 : zft 78 15 = some (.i2l, 1) := fet B78 (by decide +kernel) (Or.inr rfl)
theorem f78_16 : zft 78 16 = some (.invokestatic 275, 3) := fet B78 (by decide +kernel) (Or.inr rfl)
theorem f78_19 : zft 78 19 = some (.lstore_n 3, 1) := fet B78 (by decide +kernel) (Or.inr rfl)
theorem f78_20 : zft 78 20 = some (.lload_n 3, 1) := fet B78 (by decide +kernel) (Or.inr rfl)
theorem f78_21 : zft 78 21 = some (.aload_n 0, 1) := fet B78 (by decide +kernel) (Or.inr rfl)
theorem f78_22 : zft 78 22 = some (.iconst 0, 1) := fet B78 (by decide +kernel) (Or.inr rfl)
theorem f78_23 : zft 78 23 = some (.invokevirtual 331, 3) := fet B78 (by decide +kernel) (Or.inr rfl)
theorem f78_26 : zft 78 26 = some (.i2l, 1) := fet B78 (by decide +kernel) (Or.inr rfl)
theorem f78_27 : zft 78 27 = some (.invokestatic 275, 3) := fet B78 (by decide +kernel) (Or.inr rfl)
theorem f78_30 : zft 78 30 = some (.lstore_n 3, 1) := fet B78 (by decide +kernel) (Or.inr rfl)
theorem f78_31 : zft 78 31 = some (.lload_n 3, 1) := fet B78 (by decide +kernel) (Or.inr rfl)
theorem f78_32 : zft 78 32 = some (.aload_n 0, 1) := fet B78 (by decide +kernel) (Or.inr rfl)
theorem f78_33 : zft 78 33 = some (.iconst 1, 1) := fet B78 (by decide +kernel) (Or.inr rfl)
theorem f78_34 : zft 78 34 = some (.invokevirtual 331, 3) := fet B78 (by decide +kernel) (Or.inr rfl)
theorem f78_37 : zft 78 37 = some (.i2l, 1) := fet B78 (by decide +kernel) (Or.inr rfl)
theorem f78_38 : zft 78 38 = some (.invokestatic 275, 3) := fet B78 (by decide +kernel) (Or.inr rfl)
theorem f78_41 : zft 78 41 = some (.lstore_n 3, 1) := fet B78 (by decide +kernel) (Or.inr rfl)
theorem f78_42 : zft 78 42 = some (.aload_n 0, 1) := fet B78 (by decide +kernel) (Or.inr rfl)
theorem f78_43 : zft 78 43 = some (.invokevirtual 194, 3) := fet B78 (by decide +kernel) (Or.inr rfl)
theorem f78_46 : zft 78 46 = some (.aload_n 0, 1) := fet B78 (by decide +kernel) (Or.inr rfl)
theorem f78_47 : zft 78 47 = some (.lload_n 3, 1) := fet B78 (by decide +kernel) (Or.inr rfl)
theorem f78_48 : zft 78 48 = some (.invokevirtual 334, 3) := fet B78 (by decide +kernel) (Or.inr rfl)
theorem f78_51 : zft 78 51 = some (.lstore_n 3, 1) := fet B78 (by decide +kernel) (Or.inr rfl)
theorem f78_52 : zft 78 52 = some (.lload_n 3, 1) := fet B78 (by decide +kernel) (Or.inr rfl)
theorem f78_53 : zft 78 53 = some (.aload_n 0, 1) := fet B78 (by decide +kernel) (Or.inr rfl)
theorem f78_54 : zft 78 54 = some (.invokevirtual 337, 3) := fet B78 (by decide +kernel) (Or.inr rfl)
theorem f78_57 : zft 78 57 = some (.i2l, 1) := fet B78 (by decide +kernel) (Or.inr rfl)
theorem f78_58 : zft 78 58 = some (.invokestatic 275, 3) := fet B78 (by decide +kernel) (Or.inr rfl)
theorem f78_61 : zft 78 61 = some (.lstore_n 3, 1) := fet B78 (by decide +kernel) (Or.inr rfl)
theorem f78_62 : zft 78 62 = some (.aload_n 0, 1) := fet B78 (by decide +kernel) (Or.inr rfl)
theorem f78_63 : zft 78 63 = some (.invokevirtual 200, 3) := fet B78 (by decide +kernel) (Or.inr rfl)
theorem f78_66 : zft 78 66 = some (.aload_n 0, 1) := fet B78 (by decide +kernel) (Or.inr rfl)
theorem f78_67 : zft 78 67 = some (.lload_n 3, 1) := fet B78 (by decide +kernel) (Or.inr rfl)
theorem f78_68 : zft 78 68 = some (.invokevirtual 334, 3) := fet B78 (by decide +kernel) (Or.inr rfl)
theorem f78_71 : zft 78 71 = some (.lstore_n 3, 1) := fet B78 (by decide +kernel) (Or.inr rfl)
theorem f78_72 : zft 78 72 = some (.aload_n 0, 1) := fet B78 (by decide +kernel) (Or.inr rfl)
theorem f78_73 : zft 78 73 = some (.invokevirtual 203, 3) := fet B78 (by decide +kernel) (Or.inr rfl)
theorem f78_76 : zft 78 76 = some (.lload_n 3, 1) := fet B78 (by decide +kernel) (Or.inr rfl)
theorem f78_77 : zft 78 77 = some (.aload_n 0, 1) := fet B78 (by decide +kernel) (Or.inr rfl)
theorem f78_78 : zft 78 78 = some (.getfield 62, 3) := fet B78 (by decide +kernel) (Or.inr rfl)
theorem f78_81 : zft 78 81 = some (.iconst 0, 1) := fet B78 (by decide +kernel) (Or.inr rfl)
theorem f78_82 : zft 78 82 = some (.iaload, 1) := fet B78 (by decide +kernel) (Or.inr rfl)
theorem f78_83 : zft 78 83 = some (.i2l, 1) := fet B78 (by decide +kernel) (Or.inr rfl)
theorem f78_84 : zft 78 84 = some (.invokestatic 275, 3) := fet B78 (by decide +kernel) (Or.inr rfl)
theorem f78_87 : zft 78 87 = some (.lstore_n 3, 1) := fet B78 (by decide +kernel) (Or.inr rfl)
theorem f78_88 : zft 78 88 = some (.lload_n 3, 1) := fet B78 (by decide +kernel) (Or.inr rfl)
theorem f78_89 : zft 78 89 = some (.aload_n 0, 1) := fet B78 (by decide +kernel) (Or.inr rfl)
theorem f78_90 : zft 78 90 = some (.getfield 62, 3) := fet B78 (by decide +kernel) (Or.inr rfl)
theorem f78_93 : zft 78 93 = some (.iconst 1, 1) := fet B78 (by decide +kernel) (Or.inr rfl)
theorem f78_94 : zft 78 94 = some (.iaload, 1) := fet B78 (by decide +kernel) (Or.inr rfl)
theorem f78_95 : zft 78 95 = some (.i2l, 1) := fet B78 (by decide +kernel) (Or.inr rfl)
theorem f78_96 : zft 78 96 = some (.invokestatic 275, 3) := fet B78 (by decide +kernel) (Or.inr rfl)
theorem f78_99 : zft 78 99 = some (.lstore_n 3, 1) := fet B78 (by decide +kernel) (Or.inr rfl)
theorem f78_100 : zft 78 100 = some (.lload_n 3, 1) := fet B78 (by decide +kernel) (Or.inr rfl)
theorem f78_101 : zft 78 101 = some (.aload_n 0, 1) := fet B78 (by decide +kernel) (Or.inr rfl)
theorem f78_102 : zft 78 102 = some (.invokevirtual 340, 3) := fet B78 (by decide +kernel) (Or.inr rfl)
theorem f78_105 : zft 78 105 = some (.i2l, 1) := fet B78 (by decide +kernel) (Or.inr rfl)
theorem f78_106 : zft 78 106 = some (.invokestatic 275, 3) := fet B78 (by decide +kernel) (Or.inr rfl)
theorem f78_109 : zft 78 109 = some (.lstore_n 3, 1) := fet B78 (by decide +kernel) (Or.inr rfl)
theorem f78_110 : zft 78 110 = some (.lload_n 3, 1) := fet B78 (by decide +kernel) (Or.inr rfl)
theorem f78_111 : zft 78 111 = some (.aload_n 0, 1) := fet B78 (by decide +kernel) (Or.inr rfl)
theorem f78_112 : zft 78 112 = some (.bipush 7, 2) := fet B78 (by decide +kernel) (Or.inr rfl)
theorem f78_114 : zft 78 114 = some (.bipush 12, 2) := fet B78 (by decide +kernel) (Or.inr rfl)
theorem f78_116 : zft 78 116 = some (.iconst 0, 1) := fet B78 (by decide +kernel) (Or.inr rfl)
theorem f78_117 : zft 78 117 = some (.invokevirtual 343, 3) := fet B78 (by decide +kernel) (Or.inr rfl)
theorem f78_120 : zft 78 120 = some (.i2l, 1) := fet B78 (by decide +kernel) (Or.inr rfl)
theorem f78_121 : zft 78 121 = some (.invokestatic 275, 3) := fet B78 (by decide +kernel) (Or.inr rfl)
theorem f78_124 : zft 78 124 = some (.lstore_n 3, 1) := fet B78 (by decide +kernel) (Or.inr rfl)
theorem f78_125 : zft 78 125 = some (.lload_n 3, 1) := fet B78 (by decide +kernel) (Or.inr rfl)
theorem f78_126 : zft 78 126 = some (.aload_n 0, 1) := fet B78 (by decide +kernel) (Or.inr rfl)
theorem f78_127 : zft 78 127 = some (.bipush 7, 2) := fet B78 (by decide +kernel) (Or.inr rfl)
theorem f78_129 : zft 78 129 = some (.bipush 12, 2) := fet B78 (by decide +kernel) (Or.inr rfl)
theorem f78_131 : zft 78 131 = some (.iconst 1, 1) := fet B78 (by decide +kernel) (Or.inr rfl)
theorem f78_132 : zft 78 132 = some (.invokevirtual 343, 3) := fet B78 (by decide +kernel) (Or.inr rfl)
theorem f78_135 : zft 78 135 = some (.i2l, 1) := fet B78 (by decide +kernel) (Or.inr rfl)
theorem f78_136 : zft 78 136 = some (.invokestatic 275, 3) := fet B78 (by decide +kernel) (Or.inr rfl)
theorem f78_139 : zft 78 139 = some (.lreturn, 1) := fet B78 (by decide +kernel) (Or.inr rfl)
theorem x78_0 : Rn S 78 0 [v0, .long u, v2, v3, v4] st I J Q = Rn S 78 1 [v0, .long u, v2, v3, v4] (.long u :: st) I J Q := rL f78_0 rfl rfl
theorem x78_1 : Rn S 78 1 [.ref q, v1, v2, v3, v4] st I J Q = Rn S 78 2 [.ref q, v1, v2, v3, v4] (.ref q :: st) I J Q := rL f78_1 rfl rfl
theorem x78_2 : Rn S 78 2 [v0, v1, v2, v3, v4] (.ref q :: st) I J Q = ((zcls S q = 5 ∧ zcs st ≤ 8) ∧ Rn S 52 0 [.ref q] [] I J (fun v I' J' => Rn S 78 5 [v0, v1, v2, v3, v4] (v.toList ++ st) I' J' Q)) := rCV (As := []) f78_2 rfl rfl rfl rfl (Nat.le_of_ble_eq_true rfl)
theorem x78_5 : Rn S 78 5 [v0, v1, v2, v3, v4] (.int a :: st) I J Q = Rn S 78 6 [v0, v1, v2, v3, v4] (.long a.toInt64 :: st) I J Q := rS f78_5 rfl
theorem x78_6 : Rn S 78 6 [v0, v1, v2, v3, v4] (.long u1 :: .long u0 :: st) I J Q = (zcs st ≤ 8 ∧ Rn S 80 0 [.long u0, .null, .long u1, .null] [] I J (fun v I' J' => Rn S 78 9 [v0, v1, v2, v3, v4] (v.toList ++ st) I' J' Q)) := rCS (As := [.long u0, .long u1]) f78_6 rfl rfl rfl rfl (Nat.le_of_ble_eq_true rfl)
theorem x78_9 : Rn S 78 9 [v0, v1, v2, v3, v4] (.long u :: st) I J Q = Rn S 78 10 [v0, v1, zkl v2, .long u, .null] st I J Q := rL f78_9 rfl rfl
theorem x78_10 : Rn S 78 10 [v0, v1, v2, .long u, v4] st I J Q = Rn S 78 11 [v0, v1, v2, .long u, v4] (.long u :: st) I J Q := rL f78_10 rfl rfl
theorem x78_11 : Rn S 78 11 [.ref q, v1, v2, v3, v4] st I J Q = Rn S 78 12 [.ref q, v1, v2, v3, v4] (.ref q :: st) I J Q := rL f78_11 rfl rfl
theorem x78_12 : Rn S 78 12 [v0, v1, v2, v3, v4] (.ref q :: st) I J Q = ((zcls S q = 5 ∧ zcs st ≤ 8) ∧ Rn S 53 0 [.ref q, .null, .null] [] I J (fun v I' J' => Rn S 78 15 [v0, v1, v2, v3, v4] (v.toList ++ st) I' J' Q)) := rCV (As := []) f78_12 rfl rfl rfl rfl (Nat.le_of_ble_eq_true rfl)
theorem x78_15 : Rn S 78 15 [v0, v1, v2, v3, v4] (.int a :: st) I J Q = Rn S 78 16 [v0, v1, v2, v3, v4] (.long a.toInt64 :: st) I J Q := rS f78_15 rfl
theorem x78_16 : Rn S 78 16 [v0, v1, v2, v3, v4] (.long u1 :: .long u0 :: st) I J Q = (zcs st ≤ 8 ∧ Rn S 80 0 [.long u0, .null, .long u1, .null] [] I J (fun v I' J' => Rn S 78 19 [v0, v1, v2, v3, v4] (v.toList ++ st) I' J' Q)) := rCS (As := [.long u0, .long u1]) f78_16 rfl rfl rfl rfl (Nat.le_of_ble_eq_true rfl)
theorem x78_19 : Rn S 78 19 [v0, v1, v2, v3, v4] (.long u :: st) I J Q = Rn S 78 20 [v0, v1, zkl v2, .long u, .null] st I J Q := rL f78_19 rfl rfl
theorem x78_20 : Rn S 78 20 [v0, v1, v2, .long u, v4] st I J Q = Rn S 78 21 [v0, v1, v2, .long u, v4] (.long u :: st) I J Q := rL f78_20 rfl rfl
theorem x78_21 : Rn S 78 21 [.ref q, v1, v2, v3, v4] st I J Q = Rn S 78 22 [.ref q, v1, v2, v3, v4] (.ref q :: st) I J Q := rL f78_21 rfl rfl
theorem x78_22 : Rn S 78 22 [v0, v1, v2, v3, v4] st I J Q = Rn S 78 23 [v0, v1, v2, v3, v4] (.int 0 :: st) I J Q := rS f78_22 rfl
theorem x78_23 : Rn S 78 23 [v0, v1, v2, v3, v4] (.int a0 :: .ref q :: st) I J Q = ((zcls S q = 5 ∧ zcs st ≤ 8) ∧ Rn S 54 0 [.ref q, .int a0] [] I J (fun v I' J' => Rn S 78 26 [v0, v1, v2, v3, v4] (v.toList ++ st) I' J' Q)) := rCV (As := [.int a0]) f78_23 rfl rfl rfl rfl (Nat.le_of_ble_eq_true rfl)
theorem x78_26 : Rn S 78 26 [v0, v1, v2, v3, v4] (.int a :: st) I J Q = Rn S 78 27 [v0, v1, v2, v3, v4] (.long a.toInt64 :: st) I J Q := rS f78_26 rfl
theorem x78_27 : Rn S 78 27 [v0, v1, v2, v3, v4] (.long u1 :: .long u0 :: st) I J Q = (zcs st ≤ 8 ∧ Rn S 80 0 [.long u0, .null, .long u1, .null] [] I J (fun v I' J' => Rn S 78 30 [v0, v1, v2, v3, v4] (v.toList ++ st) I' J' Q)) := rCS (As := [.long u0, .long u1]) f78_27 rfl rfl rfl rfl (Nat.le_of_ble_eq_true rfl)
theorem x78_30 : Rn S 78 30 [v0, v1, v2, v3, v4] (.long u :: st) I J Q = Rn S 78 31 [v0, v1, zkl v2, .long u, .null] st I J Q := rL f78_30 rfl rfl
theorem x78_31 : Rn S 78 31 [v0, v1, v2, .long u, v4] st I J Q = Rn S 78 32 [v0, v1, v2, .long u, v4] (.long u :: st) I J Q := rL f78_31 rfl rfl
theorem x78_32 : Rn S 78 32 [.ref q, v1, v2, v3, v4] st I J Q = Rn S 78 33 [.ref q, v1, v2, v3, v4] (.ref q :: st) I J Q := rL f78_32 rfl rfl
theorem x78_33 : Rn S 78 33 [v0, v1, v2, v3, v4] st I J Q = Rn S 78 34 [v0, v1, v2, v3, v4] (.int 1 :: st) I J Q := rS f78_33 rfl
theorem x78_34 : Rn S 78 34 [v0, v1, v2, v3, v4] (.int a0 :: .ref q :: st) I J Q = ((zcls S q = 5 ∧ zcs st ≤ 8) ∧ Rn S 54 0 [.ref q, .int a0] [] I J (fun v I' J' => Rn S 78 37 [v0, v1, v2, v3, v4] (v.toList ++ st) I' J' Q)) := rCV (As := [.int a0]) f78_34 rfl rfl rfl rfl (Nat.le_of_ble_eq_true rfl)
theorem x78_37 : Rn S 78 37 [v0, v1, v2, v3, v4] (.int a :: st) I J Q = Rn S 78 38 [v0, v1, v2, v3, v4] (.long a.toInt64 :: st) I J Q := rS f78_37 rfl
theorem x78_38 : Rn S 78 38 [v0, v1, v2, v3, v4] (.long u1 :: .long u0 :: st) I J Q = (zcs st ≤ 8 ∧ Rn S 80 0 [.long u0, .null, .long u1, .null] [] I J (fun v I' J' => Rn S 78 41 [v0, v1, v2, v3, v4] (v.toList ++ st) I' J' Q)) := rCS (As := [.long u0, .long u1]) f78_38 rfl rfl rfl rfl (Nat.le_of_ble_eq_true rfl)
theorem x78_41 : Rn S 78 41 [v0, v1, v2, v3, v4] (.long u :: st) I J Q = Rn S 78 42 [v0, v1, zkl v2, .long u, .null] st I J Q := rL f78_41 rfl rfl
theorem x78_42 : Rn S 78 42 [.ref q, v1, v2, v3, v4] st I J Q = Rn S 78 43 [.ref q, v1, v2, v3, v4] (.ref q :: st) I J Q := rL f78_42 rfl rfl
theorem x78_43 : Rn S 78 43 [v0, v1, v2, v3, v4] (.ref q :: st) I J Q = ((zcls S q = 5 ∧ zcs st ≤ 8) ∧ Rn S 85 0 [.ref q, .null, .null, .null] [] I J (fun v I' J' => Rn S 78 46 [v0, v1, v2, v3, v4] (v.toList ++ st) I' J' Q)) := rCV (As := []) f78_43 rfl rfl rfl rfl (Nat.le_of_ble_eq_true rfl)
theorem x78_46 : Rn S 78 46 [.ref q, v1, v2, v3, v4] st I J Q = Rn S 78 47 [.ref q, v1, v2, v3, v4] (.ref q :: st) I J Q := rL f78_46 rfl rfl
theorem x78_47 : Rn S 78 47 [v0, v1, v2, .long u, v4] st I J Q = Rn S 78 48 [v0, v1, v2, .long u, v4] (.long u :: st) I J Q := rL f78_47 rfl rfl
theorem x78_48 : Rn S 78 48 [v0, v1, v2, v3, v4] (.long u0 :: .ref q :: st) I J Q = ((zcls S q = 5 ∧ zcs st ≤ 8) ∧ Rn S 79 0 [.ref q, .long u0, .null] [] I J (fun v I' J' => Rn S 78 51 [v0, v1, v2, v3, v4] (v.toList ++ st) I' J' Q)) := rCV (As := [.long u0]) f78_48 rfl rfl rfl rfl (Nat.le_of_ble_eq_true rfl)
theorem x78_51 : Rn S 78 51 [v0, v1, v2, v3, v4] (.long u :: st) I J Q = Rn S 78 52 [v0, v1, zkl v2, .long u, .null] st I J Q := rL f78_51 rfl rfl
theorem x78_52 : Rn S 78 52 [v0, v1, v2, .long u, v4] st I J Q = Rn S 78 53 [v0, v1, v2, .long u, v4] (.long u :: st) I J Q := rL f78_52 rfl rfl
theorem x78_53 : Rn S 78 53 [.ref q, v1, v2, v3, v4] st I J Q = Rn S 78 54 [.ref q, v1, v2, v3, v4] (.ref q :: st) I J Q := rL f78_53 rfl rfl
theorem x78_54 : Rn S 78 54 [v0, v1, v2, v3, v4] (.ref q :: st) I J Q = ((zcls S q = 5 ∧ zcs st ≤ 8) ∧ Rn S 56 0 [.ref q, .null] [] I J (fun v I' J' => Rn S 78 57 [v0, v1, v2, v3, v4] (v.toList ++ st) I' J' Q)) := rCV (As := []) f78_54 rfl rfl rfl rfl (Nat.le_of_ble_eq_true rfl)
theorem x78_57 : Rn S 78 57 [v0, v1, v2, v3, v4] (.int a :: st) I J Q = Rn S 78 58 [v0, v1, v2, v3, v4] (.long a.toInt64 :: st) I J Q := rS f78_57 rfl
theorem x78_58 : Rn S 78 58 [v0, v1, v2, v3, v4] (.long u1 :: .long u0 :: st) I J Q = (zcs st ≤ 8 ∧ Rn S 80 0 [.long u0, .null, .long u1, .null] [] I J (fun v I' J' => Rn S 78 61 [v0, v1, v2, v3, v4] (v.toList ++ st) I' J' Q)) := rCS (As := [.long u0, .long u1]) f78_58 rfl rfl rfl rfl (Nat.le_of_ble_eq_true rfl)
theorem x78_61 : Rn S 78 61 [v0, v1, v2, v3, v4] (.long u :: st) I J Q = Rn S 78 62 [v0, v1, zkl v2, .long u, .null] st I J Q := rL f78_61 rfl rfl
theorem x78_62 : Rn S 78 62 [.ref q, v1, v2, v3, v4] st I J Q = Rn S 78 63 [.ref q, v1, v2, v3, v4] (.ref q :: st) I J Q := rL f78_62 rfl rfl
theorem x78_63 : Rn S 78 63 [v0, v1, v2, v3, v4] (.ref q :: st) I J Q = ((zcls S q = 5 ∧ zcs st ≤ 8) ∧ Rn S 86 0 [.ref q, .null, .null] [] I J (fun v I' J' => Rn S 78 66 [v0, v1, v2, v3, v4] (v.toList ++ st) I' J' Q)) := rCV (As := []) f78_63 rfl rfl rfl rfl (Nat.le_of_ble_eq_true rfl)
theorem x78_66 : Rn S 78 66 [.ref q, v1, v2, v3, v4] st I J Q = Rn S 78 67 [.ref q, v1, v2, v3, v4] (.ref q :: st) I J Q := rL f78_66 rfl rfl
theorem x78_67 : Rn S 78 67 [v0, v1, v2, .long u, v4] st I J Q = Rn S 78 68 [v0, v1, v2, .long u, v4] (.long u :: st) I J Q := rL f78_67 rfl rfl
theorem x78_68 : Rn S 78 68 [v0, v1, v2, v3, v4] (.long u0 :: .ref q :: st) I J Q = ((zcls S q = 5 ∧ zcs st ≤ 8) ∧ Rn S 79 0 [.ref q, .long u0, .null] [] I J (fun v I' J' => Rn S 78 71 [v0, v1, v2, v3, v4] (v.toList ++ st) I' J' Q)) := rCV (As := [.long u0]) f78_68 rfl rfl rfl rfl (Nat.le_of_ble_eq_true rfl)
theorem x78_71 : Rn S 78 71 [v0, v1, v2, v3, v4] (.long u :: st) I J Q = Rn S 78 72 [v0, v1, zkl v2, .long u, .null] st I J Q := rL f78_71 rfl rfl
theorem x78_72 : Rn S 78 72 [.ref q, v1, v2, v3, v4] st I J Q = Rn S 78 73 [.ref q, v1, v2, v3, v4] (.ref q :: st) I J Q := rL f78_72 rfl rfl
theorem x78_73 : Rn S 78 73 [v0, v1, v2, v3, v4] (.ref q :: st) I J Q = ((zcls S q = 5 ∧ zcs st ≤ 8) ∧ Rn S 88 0 [.ref q, .null, .null] [] I J (fun v I' J' => Rn S 78 76 [v0, v1, v2, v3, v4] (v.toList ++ st) I' J' Q)) := rCV (As := []) f78_73 rfl rfl rfl rfl (Nat.le_of_ble_eq_true rfl)
theorem x78_76 : Rn S 78 76 [v0, v1, v2, .long u, v4] st I J Q = Rn S 78 77 [v0, v1, v2, .long u, v4] (.long u :: st) I J Q := rL f78_76 rfl rfl
theorem x78_77 : Rn S 78 77 [.ref q, v1, v2, v3, v4] st I J Q = Rn S 78 78 [.ref q, v1, v2, v3, v4] (.ref q :: st) I J Q := rL f78_77 rfl rfl
theorem x78_78_0 : Rn (zG xl) 78 78 [v0, v1, v2, v3, v4] (.ref 0 :: st) I J Q = Rn (zG xl) 78 81 [v0, v1, v2, v3, v4] (.ref 62 :: st) I J Q := (rGf f78_78 rfl).trans (tr_and rfl)
theorem x78_81 : Rn S 78 81 [v0, v1, v2, v3, v4] st I J Q = Rn S 78 82 [v0, v1, v2, v3, v4] (.int 0 :: st) I J Q := rS f78_81 rfl
theorem x78_82 : Rn S 78 82 [v0, v1, v2, v3, v4] (.int a :: .ref q :: st) I J Q = (zai S q a ∧ Rn S 78 83 [v0, v1, v2, v3, v4] (.int (I q a.toNatClampNeg) :: st) I J Q) := rIal f78_82
theorem x78_83 : Rn S 78 83 [v0, v1, v2, v3, v4] (.int a :: st) I J Q = Rn S 78 84 [v0, v1, v2, v3, v4] (.long a.toInt64 :: st) I J Q := rS f78_83 rfl
theorem x78_84 : Rn S 78 84 [v0, v1, v2, v3, v4] (.long u1 :: .long u0 :: st) I J Q = (zcs st ≤ 8 ∧ Rn S 80 0 [.long u0, .null, .long u1, .null] [] I J (fun v I' J' => Rn S 78 87 [v0, v1, v2, v3, v4] (v.toList ++ st) I' J' Q)) := rCS (As := [.long u0, .long u1]) f78_84 rfl rfl rfl rfl (Nat.le_of_ble_eq_true rfl)
theorem x78_87 : Rn S 78 87 [v0, v1, v2, v3, v4] (.long u :: st) I J Q = Rn S 78 88 [v0, v1, zkl v2, .long u, .null] st I J Q := rL f78_87 rfl rfl
theorem x78_88 : Rn S 78 88 [v0, v1, v2, .long u, v4] st I J Q = Rn S 78 89 [v0, v1, v2, .long u, v4] (.long u :: st) I J Q := rL f78_88 rfl rfl
theorem x78_89 : Rn S 78 89 [.ref q, v1, v2, v3, v4] st I J Q = Rn S 78 90 [.ref q, v1, v2, v3, v4] (.ref q :: st) I J Q := rL f78_89 rfl rfl
theorem x78_90_0 : Rn (zG xl) 78 90 [v0, v1, v2, v3, v4] (.ref 0 :: st) I J Q = Rn (zG xl) 78 93 [v0, v1, v2, v3, v4] (.ref 62 :: st) I J Q := (rGf f78_90 rfl).trans (tr_and rfl)
theorem x78_93 : Rn S 78 93 [v0, v1, v2, v3, v4] st I J Q = Rn S 78 94 [v0, v1, v2, v3, v4] (.int 1 :: st) I J Q := rS f78_93 rfl
theorem x78_94 : Rn S 78 94 [v0, v1, v2, v3, v4] (.int a :: .ref q :: st) I J Q = (zai S q a ∧ Rn S 78 95 [v0, v1, v2, v3, v4] (.int (I q a.toNatClampNeg) :: st) I J Q) := rIal f78_94
theorem x78_95 : Rn S 78 95 [v0, v1, v2, v3, v4] (.int a :: st) I J Q = Rn S 78 96 [v0, v1, v2, v3, v4] (.long a.toInt64 :: st) I J Q := rS f78_95 rfl
theorem x78_96 : Rn S 78 96 [v0, v1, v2, v3, v4] (.long u1 :: .long u0 :: st) I J Q = (zcs st ≤ 8 ∧ Rn S 80 0 [.long u0, .null, .long u1, .null] [] I J (fun v I' J' => Rn S 78 99 [v0, v1, v2, v3, v4] (v.toList ++ st) I' J' Q)) := rCS (As := [.long u0, .long u1]) f78_96 rfl rfl rfl rfl (Nat.le_of_ble_eq_true rfl)
theorem x78_99 : Rn S 78 99 [v0, v1, v2, v3, v4] (.long u :: st) I J Q = Rn S 78 100 [v0, v1, zkl v2, .long u, .null] st I J Q := rL f78_99 rfl rfl
theorem x78_100 : Rn S 78 100 [v0, v1, v2, .long u, v4] st I J Q = Rn S 78 101 [v0, v1, v2, .long u, v4] (.long u :: st) I J Q := rL f78_100 rfl rfl
theorem x78_101 : Rn S 78 101 [.ref q, v1, v2, v3, v4] st I J Q = Rn S 78 102 [.ref q, v1, v2, v3, v4] (.ref q :: st) I J Q := rL f78_101 rfl rfl
theorem x78_102 : Rn S 78 102 [v0, v1, v2, v3, v4] (.ref q :: st) I J Q = ((zcls S q = 5 ∧ zcs st ≤ 8) ∧ Rn S 61 0 [.ref q, .null, .null] [] I J (fun v I' J' => Rn S 78 105 [v0, v1, v2, v3, v4] (v.toList ++ st) I' J' Q)) := rCV (As := []) f78_102 rfl rfl rfl rfl (Nat.le_of_ble_eq_true rfl)
theorem x78_105 : Rn S 78 105 [v0, v1, v2, v3, v4] (.int a :: st) I J Q = Rn S 78 106 [v0, v1, v2, v3, v4] (.long a.toInt64 :: st) I J Q := rS f78_105 rfl
theorem x78_106 : Rn S 78 106 [v0, v1, v2, v3, v4] (.long u1 :: .long u0 :: st) I J Q = (zcs st ≤ 8 ∧ Rn S 80 0 [.long u0, .null, .long u1, .null] [] I J (fun v I' J' => Rn S 78 109 [v0, v1, v2, v3, v4] (v.toList ++ st) I' J' Q)) := rCS (As := [.long u0, .long u1]) f78_106 rfl rfl rfl rfl (Nat.le_of_ble_eq_true rfl)
theorem x78_109 : Rn S 78 109 [v0, v1, v2, v3, v4] (.long u :: st) I J Q = Rn S 78 110 [v0, v1, zkl v2, .long u, .null] st I J Q := rL f78_109 rfl rfl
theorem x78_110 : Rn S 78 110 [v0, v1, v2, .long u, v4] st I J Q = Rn S 78 111 [v0, v1, v2, .long u, v4] (.long u :: st) I J Q := rL f78_110 rfl rfl
theorem x78_111 : Rn S 78 111 [.ref q, v1, v2, v3, v4] st I J Q = Rn S 78 112 [.ref q, v1, v2, v3, v4] (.ref q :: st) I J Q := rL f78_111 rfl rfl
theorem x78_112 : Rn S 78 112 [v0, v1, v2, v3, v4] st I J Q = Rn S 78 114 [v0, v1, v2, v3, v4] (.int 7 :: st) I J Q := rS f78_112 rfl
theorem x78_114 : Rn S 78 114 [v0, v1, v2, v3, v4] st I J Q = Rn S 78 116 [v0, v1, v2, v3, v4] (.int 12 :: st) I J Q := rS f78_114 rfl
theorem x78_116 : Rn S 78 116 [v0, v1, v2, v3, v4] st I J Q = Rn S 78 117 [v0, v1, v2, v3, v4] (.int 0 :: st) I J Q := rS f78_116 rfl
theorem x78_117 : Rn S 78 117 [v0, v1, v2, v3, v4] (.int a2 :: .int a1 :: .int a0 :: .ref q :: st) I J Q = ((zcls S q = 5 ∧ zcs st ≤ 8) ∧ Rn S 66 0 [.ref q, .int a0, .int a1, .int a2] [] I J (fun v I' J' => Rn S 78 120 [v0, v1, v2, v3, v4] (v.toList ++ st) I' J' Q)) := rCV (As := [.int a0, .int a1, .int a2]) f78_117 rfl rfl rfl rfl (Nat.le_of_ble_eq_true rfl)
theorem x78_120 : Rn S 78 120 [v0, v1, v2, v3, v4] (.int a :: st) I J Q = Rn S 78 121 [v0, v1, v2, v3, v4] (.long a.toInt64 :: st) I J Q := rS f78_120 rfl
theorem x78_121 : Rn S 78 121 [v0, v1, v2, v3, v4] (.long u1 :: .long u0 :: st) I J Q = (zcs st ≤ 8 ∧ Rn S 80 0 [.long u0, .null, .long u1, .null] [] I J (fun v I' J' => Rn S 78 124 [v0, v1, v2, v3, v4] (v.toList ++ st) I' J' Q)) := rCS (As := [.long u0, .long u1]) f78_121 rfl rfl rfl rfl (Nat.le_of_ble_eq_true rfl)
theorem x78_124 : Rn S 78 124 [v0, v1, v2, v3, v4] (.long u :: st) I J Q = Rn S 78 125 [v0, v1, zkl v2, .long u, .null] st I J Q := rL f78_124 rfl rfl
theorem x78_125 : Rn S 78 125 [v0, v1, v2, .long u, v4] st I J Q = Rn S 78 126 [v0, v1, v2, .long u, v4] (.long u :: st) I J Q := rL f78_125 rfl rfl
theorem x78_126 : Rn S 78 126 [.ref q, v1, v2, v3, v4] st I J Q = Rn S 78 127 [.ref q, v1, v2, v3, v4] (.ref q :: st) I J Q := rL f78_126 rfl rfl
theorem x78_127 : Rn S 78 127 [v0, v1, v2, v3, v4] st I J Q = Rn S 78 129 [v0, v1, v2, v3, v4] (.int 7 :: st) I J Q := rS f78_127 rfl
theorem x78_129 : Rn S 78 129 [v0, v1, v2, v3, v4] st I J Q = Rn S 78 131 [v0, v1, v2, v3, v4] (.int 12 :: st) I J Q := rS f78_129 rfl
theorem x78_131 : Rn S 78 131 [v0, v1, v2, v3, v4] st I J Q = Rn S 78 132 [v0, v1, v2, v3, v4] (.int 1 :: st) I J Q := rS f78_131 rfl
theorem x78_132 : Rn S 78 132 [v0, v1, v2, v3, v4] (.int a2 :: .int a1 :: .int a0 :: .ref q :: st) I J Q = ((zcls S q = 5 ∧ zcs st ≤ 8) ∧ Rn S 66 0 [.ref q, .int a0, .int a1, .int a2] [] I J (fun v I' J' => Rn S 78 135 [v0, v1, v2, v3, v4] (v.toList ++ st) I' J' Q)) := rCV (As := [.int a0, .int a1, .int a2]) f78_132 rfl rfl rfl rfl (Nat.le_of_ble_eq_true rfl)
theorem x78_135 : Rn S 78 135 [v0, v1, v2, v3, v4] (.int a :: st) I J Q = Rn S 78 136 [v0, v1, v2, v3, v4] (.long a.toInt64 :: st) I J Q := rS f78_135 rfl
theorem x78_136 : Rn S 78 136 [v0, v1, v2, v3, v4] (.long u1 :: .long u0 :: st) I J Q = (zcs st ≤ 8 ∧ Rn S 80 0 [.long u0, .null, .long u1, .null] [] I J (fun v I' J' => Rn S 78 139 [v0, v1, v2, v3, v4] (v.toList ++ st) I' J' Q)) := rCS (As := [.long u0, .long u1]) f78_136 rfl rfl rfl rfl (Nat.le_of_ble_eq_true rfl)
theorem x78_139 : Rn S 78 139 [v0, v1, v2, v3, v4] [.long u] I J Q = Q (some (.long u)) I J := rR f78_139 rfl rfl rfl rfl rfl
/-! X5.mixBest: 79 -/
theorem B79 : zB 79 = cX5_mixBest := rfl
theorem f79_0 : zft 79 0 = some (.lload_n 1, 1) := fet B79 (by decide +kernel) (Or.inr rfl)
theorem f79_1 : zft 79 1 = some (.aload_n 0, 1) := fet B79 (by decide +kernel) (Or.inr rfl)
theorem f79_2 : zft 79 2 = some (.getfield 58, 3) := fet B79 (by decide +kernel) (Or.inr rfl)
theorem f79_5 : zft 79 5 = some (.iconst 0, 1) := fet B79 (by decide +kernel) (Or.inr rfl)
theorem f79_6 : zft 79 6 = some (.iaload, 1) := fet B79 (by decide +kernel) (Or.inr rfl)
theorem f79_7 : zft 79 7 = some (.i2l, 1) := fet B79 (by decide +kernel) (Or.inr rfl)
theorem f79_8 : zft 79 8 = some (.invokestatic 275, 3) := fet B79 (by decide +kernel) (Or.inr rfl)
theorem f79_11 : zft 79 11 = some (.aload_n 0, 1) := fet B79 (by decide +kernel) (Or.inr rfl)
theorem f79_12 : zft 79 12 = some (.getfield 58, 3) := fet B79 (by decide +kernel) (Or.inr rfl)
theorem f79_15 : zft 79 15 = some (.iconst 1, 1) := fet B79 (by decide +kernel) (Or.inr rfl)
theorem f79_16 : zft 79 16 = some (.iaload, 1) := fet B79 (by decide +kernel) (Or.inr rfl)
theorem f79_17 : zft 79 17 = some (.i2l, 1) := fet B79 (by decide +kernel) (Or.inr rfl)
theorem f79_18 : zft 79 18 = some (.invokestatic 275, 3) := fet B79 (by decide +kernel) (Or.inr rfl)
theorem f79_21 : zft 79 21 = some (.aload_n 0, 1) := fet B79 (by decide +kernel) (Or.inr rfl)
theorem f79_22 : zft 79 22 = some (.getfield 58, 3) := fet B79 (by decide +kernel) (Or.inr rfl)
theorem f79_25 : zft 79 25 = some (.iconst 2, 1) := fet B79 (by decide +kernel) (Or.inr rfl)
theorem f79_26 : zft 79 26 = some (.iaload, 1) := fet B79 (by decide +kernel) (Or.inr rfl)
theorem f79_27 : zft 79 27 = some (.i2l, 1) := fet B79 (by decide +kernel) (Or.inr rfl)
theorem f79_28 : zft 79 28 = some (.invokestatic 275, 3) := fet B79 (by decide +kernel) (Or.inr rfl)
theorem f79_31 : zft 79 31 = some (.lreturn, 1) := fet B79 (by decide +kernel) (Or.inr rfl)
theorem x79_0 : Rn S 79 0 [v0, .long u, v2] st I J Q = Rn S 79 1 [v0, .long u, v2] (.long u :: st) I J Q := rL f79_0 rfl rfl
theorem x79_1 : Rn S 79 1 [.ref q, v1, v2] st I J Q = Rn S 79 2 [.ref q, v1, v2] (.ref q :: st) I J Q := rL f79_1 rfl rfl
theorem x79_2_0 : Rn (zG xl) 79 2 [v0, v1, v2] (.ref 0 :: st) I J Q = Rn (zG xl) 79 5 [v0, v1, v2] (.ref 61 :: st) I J Q := (rGf f79_2 rfl).trans (tr_and rfl)
theorem x79_5 : Rn S 79 5 [v0, v1, v2] st I J Q = Rn S 79 6 [v0, v1, v2] (.int 0 :: st) I J Q := rS f79_5 rfl
theorem x79_6 : Rn S 79 6 [v0, v1, v2] (.int a :: .ref q :: st) I J Q = (zai S q a ∧ Rn S 79 7 [v0, v1, v2] (.int (I q a.toNatClampNeg) :: st) I J Q) := rIal f79_6
theorem x79_7 : Rn S 79 7 [v0, v1, v2] (.int a :: st) I J Q = Rn S 79 8 [v0, v1, v2] (.long a.toInt64 :: st) I J Q := rS f79_7 rfl
theorem x79_8 : Rn S 79 8 [v0, v1, v2] (.long u1 :: .long u0 :: st) I J Q = (zcs st ≤ 8 ∧ Rn S 80 0 [.long u0, .null, .long u1, .null] [] I J (fun v I' J' => Rn S 79 11 [v0, v1, v2] (v.toList ++ st) I' J' Q)) := rCS (As := [.long u0, .long u1]) f79_8 rfl rfl rfl rfl (Nat.le_of_ble_eq_true rfl)
theorem x79_11 : Rn S 79 11 [.ref q, v1, v2] st I J Q = Rn S 79 12 [.ref q, v1, v2] (.ref q :: st) I J Q := rL f79_11 rfl rfl
theorem x79_12_0 : Rn (zG xl) 79 12 [v0, v1, v2] (.ref 0 :: st) I J Q = Rn (zG xl) 79 15 [v0, v1, v2] (.ref 61 :: st) I J Q := (rGf f79_12 rfl).trans (tr_and rfl)
theorem x79_15 : Rn S 79 15 [v0, v1, v2] st I J Q = Rn S 79 16 [v0, v1, v2] (.int 1 :: st) I J Q := rS f79_15 rfl
theorem x79_16 : Rn S 79 16 [v0, v1, v2] (.int a :: .ref q :: st) I J Q = (zai S q a ∧ Rn S 79 17 [v0, v1, v2] (.int (I q a.toNatClampNeg) :: st) I J Q) := rIal f79_16
theorem x79_17 : Rn S 79 17 [v0, v1, v2] (.int a :: st) I J Q = Rn S 79 18 [v0, v1, v2] (.long a.toInt64 :: st) I J Q := rS f79_17 rfl
theorem x79_18 : Rn S 79 18 [v0, v1, v2] (.long u1 :: .long u0 :: st) I J Q = (zcs st ≤ 8 ∧ Rn S 80 0 [.long u0, .null, .long u1, .null] [] I J (fun v I' J' => Rn S 79 21 [v0, v1, v2] (v.toList ++ st) I' J' Q)) := rCS (As := [.long u0, .long u1]) f79_18 rfl rfl rfl rfl (Nat.le_of_ble_eq_true rfl)
theorem x79_21 : Rn S 79 21 [.ref q, v1, v2] st I J Q = Rn S 79 22 [.ref q, v1, v2] (.ref q :: st) I J Q := rL f79_21 rfl rfl
theorem x79_22_0 : Rn (zG xl) 79 22 [v0, v1, v2] (.ref 0 :: st) I J Q = Rn (zG xl) 79 25 [v0, v1, v2] (.ref 61 :: st) I J Q := (rGf f79_22 rfl).trans (tr_and rfl)
theorem x79_25 : Rn S 79 25 [v0, v1, v2] st I J Q = Rn S 79 26 [v0, v1, v2] (.int 2 :: st) I J Q := rS f79_25 rfl
theorem x79_26 : Rn S 79 26 [v0, v1, v2] (.int a :: .ref q :: st) I J Q = (zai S q a ∧ Rn S 79 27 [v0, v1, v2] (.int (I q a.toNatClampNeg) :: st) I J Q) := rIal f79_26
theorem x79_27 : Rn S 79 27 [v0, v1, v2] (.int a :: st) I J Q = Rn S 79 28 [v0, v1, v2] (.long a.toInt64 :: st) I J Q := rS f79_27 rfl
theorem x79_28 : Rn S 79 28 [v0, v1, v2] (.long u1 :: .long u0 :: st) I J Q = (zcs st ≤ 8 ∧ Rn S 80 0 [.long u0, .null, .long u1, .null] [] I J (fun v I' J' => Rn S 79 31 [v0, v1, v2] (v.toList ++ st) I' J' Q)) := rCS (As := [.long u0, .long u1]) f79_28 rfl rfl rfl rfl (Nat.le_of_ble_eq_true rfl)
theorem x79_31 : Rn S 79 31 [v0, v1, v2] [.long u] I J Q = Q (some (.long u)) I J := rR f79_31 rfl rfl rfl rfl rfl
/-! X5.mix: 80 -/
theorem B80 : zB 80 = cX5_mix := rfl
theorem f80_0 : zft 80 0 = some (.ldc2_w 347, 3) := fet B80 (by decide +kernel) (Or.inr rfl)
theorem f80_3 : zft 80 3 = some (.lload_n 0, 1) := fet B80 (by decide +kernel) (Or.inr rfl)
theorem f80_4 : zft 80 4 = some (.lmul, 1) := fet B80 (by decide +kernel) (Or.inr rfl)
theorem f80_5 : zft 80 5 = some (.lload_n 2, 1) := fet B80 (by decide +kernel) (Or.inr rfl)
theorem f80_6 : zft 80 6 = some (.ladd, 1) := fet B80 (by decide +kernel) (Or.inr rfl)
theorem f80_7 : zft 80 7 = some (.lreturn, 1) := fet B80 (by decide +kernel) (Or.inr rfl)
theorem x80_0 : Rn S 80 0 [v0, v1, v2, v3] st I J Q = Rn S 80 3 [v0, v1, v2, v3] (.long 31 :: st) I J Q := rS f80_0 rfl
theorem x80_3 : Rn S 80 3 [.long u, v1, v2, v3] st I J Q = Rn S 80 4 [.long u, v1, v2, v3] (.long u :: st) I J Q := rL f80_3 rfl rfl
theorem x80_4 : Rn S 80 4 [v0, v1, v2, v3] (.long w :: .long u :: st) I J Q = Rn S 80 5 [v0, v1, v2, v3] (.long (u * w) :: st) I J Q := rS f80_4 rfl
theorem x80_5 : Rn S 80 5 [v0, v1, .long u, v3] st I J Q = Rn S 80 6 [v0, v1, .long u, v3] (.long u :: st) I J Q := rL f80_5 rfl rfl
theorem x80_6 : Rn S 80 6 [v0, v1, v2, v3] (.long w :: .long u :: st) I J Q = Rn S 80 7 [v0, v1, v2, v3] (.long (u + w) :: st) I J Q := rS f80_6 rfl
theorem x80_7 : Rn S 80 7 [v0, v1, v2, v3] [.long u] I J Q = Q (some (.long u)) I J := rR f80_7 rfl rfl rfl rfl rfl
/-! X5.below: 81 -/
theorem B81 : zB 81 = cX5_below := rfl
theorem f81_0 : zft 81 0 = some (.iload_n 0, 1) := fet B81 (by decide +kernel) (Or.inr rfl)
theorem f81_1 : zft 81 1 = some (.ifCond .lt 12, 3) := fet B81 (by decide +kernel) (Or.inr rfl)
theorem f81_4 : zft 81 4 = some (.iload_n 0, 1) := fet B81 (by decide +kernel) (Or.inr rfl)
theorem f81_5 : zft 81 5 = some (.iload_n 1, 1) := fet B81 (by decide +kernel) (Or.inr rfl)
theorem f81_6 : zft 81 6 = some (.if_icmp .ge 7, 3) := fet B81 (by decide +kernel) (Or.inr rfl)
theorem f81_9 : zft 81 9 = some (.iconst 1, 1) := fet B81 (by decide +kernel) (Or.inr rfl)
theorem f81_10 : zft 81 10 = some (.goto 4, 3) := fet B81 (by decide +kernel) (Or.inr rfl)
theorem f81_13 : zft 81 13 = some (.iconst 0, 1) := fet B81 (by decide +kernel) (Or.inr rfl)
theorem f81_14 : zft 81 14 = some (.ireturn, 1) := fet B81 (by decide +kernel) (Or.inr rfl)
theorem x81_0 : Rn S 81 0 [.int a, v1] st I J Q = Rn S 81 1 [.int a, v1] (.int a :: st) I J Q := rL f81_0 rfl rfl
theorem x81_1 : Rn S 81 1 [v0, v1] (.int a :: st) I J Q = if a < 0 then Rn S 81 13 [v0, v1] st I J Q else Rn S 81 4 [v0, v1] st I J Q := rIlt f81_1 rfl rfl
theorem x81_4 : Rn S 81 4 [.int a, v1] st I J Q = Rn S 81 5 [.int a, v1] (.int a :: st) I J Q := rL f81_4 rfl rfl
theorem x81_5 : Rn S 81 5 [v0, .int a] st I J Q = Rn S 81 6 [v0, .int a] (.int a :: st) I J Q := rL f81_5 rfl rfl
theorem x81_6 : Rn S 81 6 [v0, v1] (.int b :: .int a :: st) I J Q = if a < b then Rn S 81 9 [v0, v1] st I J Q else Rn S 81 13 [v0, v1] st I J Q := rCge f81_6 rfl rfl
theorem x81_9 : Rn S 81 9 [v0, v1] st I J Q = Rn S 81 10 [v0, v1] (.int 1 :: st) I J Q := rS f81_9 rfl
theorem x81_10 : Rn S 81 10 [v0, v1] st I J Q = Rn S 81 14 [v0, v1] st I J Q := rB f81_10 rfl rfl rfl
theorem x81_13 : Rn S 81 13 [v0, v1] st I J Q = Rn S 81 14 [v0, v1] (.int 0 :: st) I J Q := rS f81_13 rfl
theorem x81_14 : Rn S 81 14 [v0, v1] [.int a] I J Q = ((a = 0 ∨ a = 1) ∧ Q (some (.int a)) I J) := rRZ f81_14 (Or.inl rfl)
/-! X5.mayBeEvent: 82 -/
theorem B82 : zB 82 = cX5_mayBeEvent := rfl
theorem f82_0 : zft 82 0 = some (.iload_n 0, 1) := fet B82 (by decide +kernel) (Or.inr rfl)
theorem f82_1 : zft 82 1 = some (.iconst 2, 1) := fet B82 (by decide +kernel) (Or.inr rfl)
theorem f82_2 : zft 82 2 = some (.invokestatic 72, 3) := fet B82 (by decide +kernel) (Or.inr rfl)
theorem f82_5 : zft 82 5 = some (.ifCond .eq 25, 3) := fet B82 (by decide +kernel) (Or.inr rfl)
theorem f82_8 : zft 82 8 = some (.iload_n 1, 1) := fet B82 (by decide +kernel) (Or.inr rfl)
theorem f82_9 : zft 82 9 = some (.bipush 6, 2) := fet B82 (by decide +kernel) (Or.inr rfl)
theorem f82_11 : zft 82 11 = some (.invokestatic 72, 3) := fet B82 (by decide +kernel) (Or.inr rfl)
theorem f82_14 : zft 82 14 = some (.ifCond .eq 16, 3) := fet B82 (by decide +kernel) (Or.inr rfl)
theorem f82_17 : zft 82 17 = some (.iload_n 2, 1) := fet B82 (by decide +kernel) (Or.inr rfl)
theorem f82_18 : zft 82 18 = some (.bipush 24, 2) := fet B82 (by decide +kernel) (Or.inr rfl)
theorem f82_20 : zft 82 20 = some (.invokestatic 72, 3) := fet B82 (by decide +kernel) (Or.inr rfl)
theorem f82_23 : zft 82 23 = some (.ifCond .eq 7, 3) := fet B82 (by decide +kernel) (Or.inr rfl)
theorem f82_26 : zft 82 26 = some (.iconst 1, 1) := fet B82 (by decide +kernel) (Or.inr rfl)
theorem f82_27 : zft 82 27 = some (.goto 4, 3) := fet B82 (by decide +kernel) (Or.inr rfl)
theorem f82_30 : zft 82 30 = some (.iconst 0, 1) := fet B82 (by decide +kernel) (Or.inr rfl)
theorem f82_31 : zft 82 31 = some (.ireturn, 1) := fet B82 (by decide +kernel) (Or.inr rfl)
theorem x82_0 : Rn S 82 0 [.int a, v1, v2] st I J Q = Rn S 82 1 [.int a, v1, v2] (.int a :: st) I J Q := rL f82_0 rfl rfl
theorem x82_1 : Rn S 82 1 [v0, v1, v2] st I J Q = Rn S 82 2 [v0, v1, v2] (.int 2 :: st) I J Q := rS f82_1 rfl
theorem x82_2 : Rn S 82 2 [v0, v1, v2] (.int a1 :: .int a0 :: st) I J Q = (zcs st ≤ 8 ∧ Rn S 81 0 [.int a0, .int a1] [] I J (fun v I' J' => Rn S 82 5 [v0, v1, v2] (v.toList ++ st) I' J' Q)) := rCS (As := [.int a0, .int a1]) f82_2 rfl rfl rfl rfl (Nat.le_of_ble_eq_true rfl)
theorem x82_5 : Rn S 82 5 [v0, v1, v2] (.int a :: st) I J Q = if a = 0 then Rn S 82 30 [v0, v1, v2] st I J Q else Rn S 82 8 [v0, v1, v2] st I J Q := rIeq f82_5 rfl rfl
theorem x82_8 : Rn S 82 8 [v0, .int a, v2] st I J Q = Rn S 82 9 [v0, .int a, v2] (.int a :: st) I J Q := rL f82_8 rfl rfl
theorem x82_9 : Rn S 82 9 [v0, v1, v2] st I J Q = Rn S 82 11 [v0, v1, v2] (.int 6 :: st) I J Q := rS f82_9 rfl
theorem x82_11 : Rn S 82 11 [v0, v1, v2] (.int a1 :: .int a0 :: st) I J Q = (zcs st ≤ 8 ∧ Rn S 81 0 [.int a0, .int a1] [] I J (fun v I' J' => Rn S 82 14 [v0, v1, v2] (v.toList ++ st) I' J' Q)) := rCS (As := [.int a0, .int a1]) f82_11 rfl rfl rfl rfl (Nat.le_of_ble_eq_true rfl)
theorem x82_14 : Rn S 82 14 [v0, v1, v2] (.int a :: st) I J Q = if a = 0 then Rn S 82 30 [v0, v1, v2] st I J Q else Rn S 82 17 [v0, v1, v2] st I J Q := rIeq f82_14 rfl rfl
theorem x82_17 : Rn S 82 17 [v0, v1, .int a] st I J Q = Rn S 82 18 [v0, v1, .int a] (.int a :: st) I J Q := rL f82_17 rfl rfl
theorem x82_18 : Rn S 82 18 [v0, v1, v2] st I J Q = Rn S 82 20 [v0, v1, v2] (.int 24 :: st) I J Q := rS f82_18 rfl
theorem x82_20 : Rn S 82 20 [v0, v1, v2] (.int a1 :: .int a0 :: st) I J Q = (zcs st ≤ 8 ∧ Rn S 81 0 [.int a0, .int a1] [] I J (fun v I' J' => Rn S 82 23 [v0, v1, v2] (v.toList ++ st) I' J' Q)) := rCS (As := [.int a0, .int a1]) f82_20 rfl rfl rfl rfl (Nat.le_of_ble_eq_true rfl)
theorem x82_23 : Rn S 82 23 [v0, v1, v2] (.int a :: st) I J Q = if a = 0 then Rn S 82 30 [v0, v1, v2] st I J Q else Rn S 82 26 [v0, v1, v2] st I J Q := rIeq f82_23 rfl rfl
theorem x82_26 : Rn S 82 26 [v0, v1, v2] st I J Q = Rn S 82 27 [v0, v1, v2] (.int 1 :: st) I J Q := rS f82_26 rfl
theorem x82_27 : Rn S 82 27 [v0, v1, v2] st I J Q = Rn S 82 31 [v0, v1, v2] st I J Q := rB f82_27 rfl rfl rfl
theorem x82_30 : Rn S 82 30 [v0, v1, v2] st I J Q = Rn S 82 31 [v0, v1, v2] (.int 0 :: st) I J Q := rS f82_30 rfl
theorem x82_31 : Rn S 82 31 [v0, v1, v2] [.int a] I J Q = ((a = 0 ∨ a = 1) ∧ Q (some (.int a)) I J) := rRZ f82_31 (Or.inl rfl)
/-! X5.found: 83 -/
theorem B83 : zB 83 = cX5_found := rfl
theorem f83_0 : zft 83 0 = some (.aload_n 0, 1) := fet B83 (by decide +kernel) (Or.inr rfl)
theorem f83_1 : zft 83 1 = some (.iload_n 1, 1) := fet B83 (by decide +kernel) (Or.inr rfl)
theorem f83_2 : zft 83 2 = some (.putfield 250, 3) := fet B83 (by decide +kernel) (Or.inr rfl)
theorem f83_5 : zft 83 5 = some (.bipush (-10), 2) := fet B83 (by decide +kernel) (Or.inr rfl)
theorem f83_7 : zft 83 7 = some (.iload_n 1, 1) := fet B83 (by decide +kernel) (Or.inr rfl)
theorem f83_8 : zft 83 8 = some (.isub, 1) := fet B83 (by decide +kernel) (Or.inr rfl)
theorem f83_9 : zft 83 9 = some (.ireturn, 1) := fet B83 (by decide +kernel) (Or.inr rfl)
theorem x83_0 : Rn S 83 0 [.ref q, v1] st I J Q = Rn S 83 1 [.ref q, v1] (.ref q :: st) I J Q := rL f83_0 rfl rfl
theorem x83_1 : Rn S 83 1 [v0, .int a] st I J Q = Rn S 83 2 [v0, .int a] (.int a :: st) I J Q := rL f83_1 rfl rfl
theorem x83_2_0 : Rn (zG xl) 83 2 [v0, v1] (.int a :: .ref 0 :: st) I J Q = Rn (zG xl) 83 5 [v0, v1] st (zr I 0 (upd (I 0) 11 a)) J Q := (rPf f83_2 rfl).trans (tr_pf rfl rfl rfl)
theorem x83_5 : Rn S 83 5 [v0, v1] st I J Q = Rn S 83 7 [v0, v1] (.int (-10) :: st) I J Q := rS f83_5 rfl
theorem x83_7 : Rn S 83 7 [v0, .int a] st I J Q = Rn S 83 8 [v0, .int a] (.int a :: st) I J Q := rL f83_7 rfl rfl
theorem x83_8 : Rn S 83 8 [v0, v1] (.int b :: .int a :: st) I J Q = Rn S 83 9 [v0, v1] (.int (a - b) :: st) I J Q := rS f83_8 rfl
theorem x83_9 : Rn S 83 9 [v0, v1] [.int a] I J Q = Q (some (.int a)) I J := rR f83_9 rfl rfl rfl rfl rfl
/-! X5.settleTexts: 84 -/
theorem B84 : zB 84 = cX5_settleTexts := rfl
theorem f84_0 : zft 84 0 = some (.aload_n 0, 1) := fet B84 (by decide +kernel) (Or.inr rfl)
theorem f84_1 : zft 84 1 = some (.getfield 27, 3) := fet B84 (by decide +kernel) (Or.inr rfl)
theorem f84_4 : zft 84 4 = some (.aload_n 0, 1) := fet B84 (by decide +kernel) (Or.inr rfl)
theorem f84_5 : zft 84 5 = some (.getfield 20, 3) := fet B84 (by decide +kernel) (Or.inr rfl)
theorem f84_8 : zft 84 8 = some (.iconst 0, 1) := fet B84 (by decide +kernel) (Or.inr rfl)
theorem f84_9 : zft 84 9 = some (.aaload, 1) := fet B84 (by decide +kernel) (Or.inr rfl)
theorem f84_10 : zft 84 10 = some (.aload_n 0, 1) := fet B84 (by decide +kernel) (Or.inr rfl)
theorem f84_11 : zft 84 11 = some (.getfield 20, 3) := fet B84 (by decide +kernel) (Or.inr rfl)
theorem f84_14 : zft 84 14 = some (.iconst 1, 1) := fet B84 (by decide +kernel) (Or.inr rfl)
theorem f84_15 : zft 84 15 = some (.aaload, 1) := fet B84 (by decide +kernel) (Or.inr rfl)
theorem f84_16 : zft 84 16 = some (.aload_n 0, 1) := fet B84 (by decide +kernel) (Or.inr rfl)
theorem f84_17 : zft 84 17 = some (.getfield 20, 3) := fet B84 (by decide +kernel) (Or.inr rfl)
theorem f84_20 : zft 84 20 = some (.iconst 2, 1) := fet B84 (by decide +kernel) (Or.inr rfl)
theorem f84_21 : zft 84 21 = some (.aaload, 1) := fet B84 (by decide +kernel) (Or.inr rfl)
theorem f84_22 : zft 84 22 = some (.invokevirtual 349, 3) := fet B84 (by decide +kernel) (Or.inr rfl)
theorem f84_25 : zft 84 25 = some (.aload_n 0, 1) := fet B84 (by decide +kernel) (Or.inr rfl)
theorem f84_26 : zft 84 26 = some (.getfield 34, 3) := fet B84 (by decide +kernel) (Or.inr rfl)
theorem f84_29 : zft 84 29 = some (.aload_n 0, 1) := fet B84 (by decide +kernel) (Or.inr rfl)
theorem f84_30 : zft 84 30 = some (.getfield 27, 3) := fet B84 (by decide +kernel) (Or.inr rfl)
theorem f84_33 : zft 84 33 = some (.invokevirtual 123, 3) := fet B84 (by decide +kernel) (Or.inr rfl)
theorem f84_36 : zft 84 36 = some (.return_, 1) := fet B84 (by decide +kernel) (Or.inr rfl)
theorem x84_0 : Rn S 84 0 [.ref q] st I J Q = Rn S 84 1 [.ref q] (.ref q :: st) I J Q := rL f84_0 rfl rfl
theorem x84_1_0 : Rn (zG xl) 84 1 [v0] (.ref 0 :: st) I J Q = Rn (zG xl) 84 4 [v0] (.ref 8 :: st) I J Q := (rGf f84_1 rfl).trans (tr_and rfl)
theorem x84_4 : Rn S 84 4 [.ref q] st I J Q = Rn S 84 5 [.ref q] (.ref q :: st) I J Q := rL f84_4 rfl rfl
theorem x84_5_0 : Rn (zG xl) 84 5 [v0] (.ref 0 :: st) I J Q = Rn (zG xl) 84 8 [v0] (.ref 1 :: st) I J Q := (rGf f84_5 rfl).trans (tr_and rfl)
theorem x84_8 : Rn S 84 8 [v0] st I J Q = Rn S 84 9 [v0] (.int 0 :: st) I J Q := rS f84_8 rfl
theorem x84_9 : Rn S 84 9 [v0] (.int a :: .ref q :: st) I J Q = (zar S q a ∧ Rn S 84 10 [v0] (zra S q a.toNatClampNeg :: st) I J Q) := rAal f84_9
theorem x84_10 : Rn S 84 10 [.ref q] st I J Q = Rn S 84 11 [.ref q] (.ref q :: st) I J Q := rL f84_10 rfl rfl
theorem x84_11_0 : Rn (zG xl) 84 11 [v0] (.ref 0 :: st) I J Q = Rn (zG xl) 84 14 [v0] (.ref 1 :: st) I J Q := (rGf f84_11 rfl).trans (tr_and rfl)
theorem x84_14 : Rn S 84 14 [v0] st I J Q = Rn S 84 15 [v0] (.int 1 :: st) I J Q := rS f84_14 rfl
theorem x84_15 : Rn S 84 15 [v0] (.int a :: .ref q :: st) I J Q = (zar S q a ∧ Rn S 84 16 [v0] (zra S q a.toNatClampNeg :: st) I J Q) := rAal f84_15
theorem x84_16 : Rn S 84 16 [.ref q] st I J Q = Rn S 84 17 [.ref q] (.ref q :: st) I J Q := rL f84_16 rfl rfl
theorem x84_17_0 : Rn (zG xl) 84 17 [v0] (.ref 0 :: st) I J Q = Rn (zG xl) 84 20 [v0] (.ref 1 :: st) I J Q := (rGf f84_17 rfl).trans (tr_and rfl)
theorem x84_20 : Rn S 84 20 [v0] st I J Q = Rn S 84 21 [v0] (.int 2 :: st) I J Q := rS f84_20 rfl
theorem x84_21 : Rn S 84 21 [v0] (.int a :: .ref q :: st) I J Q = (zar S q a ∧ Rn S 84 22 [v0] (zra S q a.toNatClampNeg :: st) I J Q) := rAal f84_21
theorem x84_22 : Rn S 84 22 [v0] (.ref q2 :: .ref q1 :: .ref q0 :: .ref q :: st) I J Q = ((zcls S q = 1 ∧ zcs st ≤ 8) ∧ Rn S 12 0 [.ref q, .ref q0, .ref q1, .ref q2] [] I J (fun v I' J' => Rn S 84 25 [v0] (v.toList ++ st) I' J' Q)) := rCV (As := [.ref q0, .ref q1, .ref q2]) f84_22 rfl rfl rfl rfl (Nat.le_of_ble_eq_true rfl)
theorem x84_25 : Rn S 84 25 [.ref q] st I J Q = Rn S 84 26 [.ref q] (.ref q :: st) I J Q := rL f84_25 rfl rfl
theorem x84_26_0 : Rn (zG xl) 84 26 [v0] (.ref 0 :: st) I J Q = Rn (zG xl) 84 29 [v0] (.ref 18 :: st) I J Q := (rGf f84_26 rfl).trans (tr_and rfl)
theorem x84_29 : Rn S 84 29 [.ref q] st I J Q = Rn S 84 30 [.ref q] (.ref q :: st) I J Q := rL f84_29 rfl rfl
theorem x84_30_0 : Rn (zG xl) 84 30 [v0] (.ref 0 :: st) I J Q = Rn (zG xl) 84 33 [v0] (.ref 8 :: st) I J Q := (rGf f84_30 rfl).trans (tr_and rfl)
theorem x84_33 : Rn S 84 33 [v0] (.ref q0 :: .ref q :: st) I J Q = ((zcls S q = 0 ∧ zcs st ≤ 8) ∧ Rn S 1 0 [.ref q, .ref q0, .null, .null] [] I J (fun v I' J' => Rn S 84 36 [v0] (v.toList ++ st) I' J' Q)) := rCV (As := [.ref q0]) f84_33 rfl rfl rfl rfl (Nat.le_of_ble_eq_true rfl)
theorem x84_36 : Rn S 84 36 [v0] [] I J Q = Q none I J := rR f84_36 rfl rfl rfl rfl rfl
/-! X5.findShiftMore: 85 -/
theorem B85 : zB 85 = cX5_findShiftMore := rfl
theorem f85_0 : zft 85 0 = some (.aload_n 0, 1) := fet B85 (by decide +kernel) (Or.inr rfl)
theorem f85_1 : zft 85 1 = some (.getfield 58, 3) := fet B85 (by decide +kernel) (Or.inr rfl)
theorem f85_4 : zft 85 4 = some (.iconst (-1), 1) := fet B85 (by decide +kernel) (Or.inr rfl)
theorem f85_5 : zft 85 5 = some (.invokestatic 353, 3) := fet B85 (by decide +kernel) (Or.inr rfl)
theorem f85_8 : zft 85 8 = some (.aload_n 0, 1) := fet B85 (by decide +kernel) (Or.inr rfl)
theorem f85_9 : zft 85 9 = some (.getfield 38, 3) := fet B85 (by decide +kernel) (Or.inr rfl)
theorem f85_12 : zft 85 12 = some (.aload_n 0, 1) := fet B85 (by decide +kernel) (Or.inr rfl)
theorem f85_13 : zft 85 13 = some (.getfield 27, 3) := fet B85 (by decide +kernel) (Or.inr rfl)
theorem f85_16 : zft 85 16 = some (.invokevirtual 197, 3) := fet B85 (by decide +kernel) (Or.inr rfl)
theorem f85_19 : zft 85 19 = some (.aload_n 0, 1) := fet B85 (by decide +kernel) (Or.inr rfl)
theorem f85_20 : zft 85 20 = some (.getfield 27, 3) := fet B85 (by decide +kernel) (Or.inr rfl)
theorem f85_23 : zft 85 23 = some (.getfield 111, 3) := fet B85 (by decide +kernel) (Or.inr rfl)
theorem f85_26 : zft 85 26 = some (.istore_n 1, 1) := fet B85 (by decide +kernel) (Or.inr rfl)
theorem f85_27 : zft 85 27 = some (.aload_n 0, 1) := fet B85 (by decide +kernel) (Or.inr rfl)
theorem f85_28 : zft 85 28 = some (.getfield 38, 3) := fet B85 (by decide +kernel) (Or.inr rfl)
theorem f85_31 : zft 85 31 = some (.iload_n 1, 1) := fet B85 (by decide +kernel) (Or.inr rfl)
theorem f85_32 : zft 85 32 = some (.iconst 1, 1) := fet B85 (by decide +kernel) (Or.inr rfl)
theorem f85_33 : zft 85 33 = some (.iadd, 1) := fet B85 (by decide +kernel) (Or.inr rfl)
theorem f85_34 : zft 85 34 = some (.putfield 111, 3) := fet B85 (by decide +kernel) (Or.inr rfl)
theorem f85_37 : zft 85 37 = some (.iconst 0, 1) := fet B85 (by decide +kernel) (Or.inr rfl)
theorem f85_38 : zft 85 38 = some (.istore_n 2, 1) := fet B85 (by decide +kernel) (Or.inr rfl)
theorem f85_39 : zft 85 39 = some (.iload_n 2, 1) := fet B85 (by decide +kernel) (Or.inr rfl)
theorem f85_40 : zft 85 40 = some (.aload_n 0, 1) := fet B85 (by decide +kernel) (Or.inr rfl)
theorem f85_41 : zft 85 41 = some (.getfield 27, 3) := fet B85 (by decide +kernel) (Or.inr rfl)
theorem f85_44 : zft 85 44 = some (.getfield 102, 3) := fet B85 (by decide +kernel) (Or.inr rfl)
theorem f85_47 : zft 85 47 = some (.if_icmp .ge 54, 3) := fet B85 (by decide +kernel) (Or.inr rfl)
theorem f85_50 : zft 85 50 = some (.iconst 0, 1) := fet B85 (by decide +kernel) (Or.inr rfl)
theorem f85_51 : zft 85 51 = some (.istore_n 3, 1) := fet B85 (by decide +kernel) (Or.inr rfl)
theorem f85_52 : zft 85 52 = some (.iload_n 3, 1) := fet B85 (by decide +kernel) (Or.inr rfl)
theorem f85_53 : zft 85 53 = some (.aload_n 0, 1) := fet B85 (by decide +kernel) (Or.inr rfl)
theorem f85_54 : zft 85 54 = some (.getfield 27, 3) := fet B85 (by decide +kernel) (Or.inr rfl)
theorem f85_57 : zft 85 57 = some (.getfield 90, 3) := fet B85 (by decide +kernel) (Or.inr rfl)
theorem f85_60 : zft 85 60 = some (.if_icmp .ge 35, 3) := fet B85 (by decide +kernel) (Or.inr rfl)
theorem f85_63 : zft 85 63 = some (.aload_n 0, 1) := fet B85 (by decide +kernel) (Or.inr rfl)
theorem f85_64 : zft 85 64 = some (.getfield 38, 3) := fet B85 (by decide +kernel) (Or.inr rfl)
theorem f85_67 : zft 85 67 = some (.getfield 114, 3) := fet B85 (by decide +kernel) (Or.inr rfl)
theorem f85_70 : zft 85 70 = some (.iload_n 1, 1) := fet B85 (by decide +kernel) (Or.inr rfl)
theorem f85_71 : zft 85 71 = some (.iload_n 2, 1) := fet B85 (by decide +kernel) (Or.inr rfl)
theorem f85_72 : zft 85 72 = some (.iastore, 1) := fet B85 (by decide +kernel) (Or.inr rfl)
theorem f85_73 : zft 85 73 = some (.aload_n 0, 1) := fet B85 (by decide +kernel) (Or.inr rfl)
theorem f85_74 : zft 85 74 = some (.getfield 38, 3) := fet B85 (by decide +kernel) (Or.inr rfl)
theorem f85_77 : zft 85 77 = some (.getfield 117, 3) := fet B85 (by decide +kernel) (Or.inr rfl)
theorem f85_80 : zft 85 80 = some (.iload_n 1, 1) := fet B85 (by decide +kernel) (Or.inr rfl)
theorem f85_81 : zft 85 81 = some (.iload_n 3, 1) := fet B85 (by decide +kernel) (Or.inr rfl)
theorem f85_82 : zft 85 82 = some (.iastore, 1) := fet B85 (by decide +kernel) (Or.inr rfl)
theorem f85_83 : zft 85 83 = some (.aload_n 0, 1) := fet B85 (by decide +kernel) (Or.inr rfl)
theorem f85_84 : zft 85 84 = some (.iload_n 2, 1) := fet B85 (by decide +kernel) (Or.inr rfl)
theorem f85_85 : zft 85 85 = some (.iload_n 3, 1) := fet B85 (by decide +kernel) (Or.inr rfl)
theorem f85_86 : zft 85 86 = some (.invokevirtual 359, 3) := fet B85 (by decide +kernel) (Or.inr rfl)
theorem f85_89 : zft 85 89 = some (.iinc 3 1, 3) := fet B85 (by decide +kernel) (Or.inr rfl)
theorem f85_92 : zft 85 92 = some (.goto (-40), 3) := fet B85 (by decide +kernel) (Or.inr rfl)
theorem f85_95 : zft 85 95 = some (.iinc 2 1, 3) := fet B85 (by decide +kernel) (Or.inr rfl)
theorem f85_98 : zft 85 98 = some (.goto (-59), 3) := fet B85 (by decide +kernel) (Or.inr rfl)
theorem f85_101 : zft 85 101 = some (.return_, 1) := fet B85 (by decide +kernel) (Or.inr rfl)
theorem x85_0 : Rn S 85 0 [.ref q, v1, v2, v3] st I J Q = Rn S 85 1 [.ref q, v1, v2, v3] (.ref q :: st) I J Q := rL f85_0 rfl rfl
theorem x85_1_0 : Rn (zG xl) 85 1 [v0, v1, v2, v3] (.ref 0 :: st) I J Q = Rn (zG xl) 85 4 [v0, v1, v2, v3] (.ref 61 :: st) I J Q := (rGf f85_1 rfl).trans (tr_and rfl)
theorem x85_4 : Rn S 85 4 [v0, v1, v2, v3] st I J Q = Rn S 85 5 [v0, v1, v2, v3] (.int (-1) :: st) I J Q := rS f85_4 rfl
theorem x85_5 : Rn S 85 5 [v0, v1, v2, v3] (.int a1 :: .ref q0 :: st) I J Q = (zcs st ≤ 8 ∧ Rn S 198 0 [.ref q0, .int a1, .null, .null] [] I J (fun v I' J' => Rn S 85 8 [v0, v1, v2, v3] (v.toList ++ st) I' J' Q)) := rCS (As := [.ref q0, .int a1]) f85_5 rfl rfl rfl rfl (Nat.le_of_ble_eq_true rfl)
theorem x85_8 : Rn S 85 8 [.ref q, v1, v2, v3] st I J Q = Rn S 85 9 [.ref q, v1, v2, v3] (.ref q :: st) I J Q := rL f85_8 rfl rfl
theorem x85_9_0 : Rn (zG xl) 85 9 [v0, v1, v2, v3] (.ref 0 :: st) I J Q = Rn (zG xl) 85 12 [v0, v1, v2, v3] (.ref 28 :: st) I J Q := (rGf f85_9 rfl).trans (tr_and rfl)
theorem x85_12 : Rn S 85 12 [.ref q, v1, v2, v3] st I J Q = Rn S 85 13 [.ref q, v1, v2, v3] (.ref q :: st) I J Q := rL f85_12 rfl rfl
theorem x85_13_0 : Rn (zG xl) 85 13 [v0, v1, v2, v3] (.ref 0 :: st) I J Q = Rn (zG xl) 85 16 [v0, v1, v2, v3] (.ref 8 :: st) I J Q := (rGf f85_13 rfl).trans (tr_and rfl)
theorem x85_16 : Rn S 85 16 [v0, v1, v2, v3] (.ref q0 :: .ref q :: st) I J Q = ((zcls S q = 1 ∧ zcs st ≤ 8) ∧ Rn S 14 0 [.ref q, .ref q0] [] I J (fun v I' J' => Rn S 85 19 [v0, v1, v2, v3] (v.toList ++ st) I' J' Q)) := rCV (As := [.ref q0]) f85_16 rfl rfl rfl rfl (Nat.le_of_ble_eq_true rfl)
theorem x85_19 : Rn S 85 19 [.ref q, v1, v2, v3] st I J Q = Rn S 85 20 [.ref q, v1, v2, v3] (.ref q :: st) I J Q := rL f85_19 rfl rfl
theorem x85_20_0 : Rn (zG xl) 85 20 [v0, v1, v2, v3] (.ref 0 :: st) I J Q = Rn (zG xl) 85 23 [v0, v1, v2, v3] (.ref 8 :: st) I J Q := (rGf f85_20 rfl).trans (tr_and rfl)
theorem x85_23_8 : Rn (zG xl) 85 23 [v0, v1, v2, v3] (.ref 8 :: st) I J Q = Rn (zG xl) 85 26 [v0, v1, v2, v3] (.int (I 8 6) :: st) I J Q := (rGf f85_23 rfl).trans (tr_and rfl)
theorem x85_23_28 : Rn (zG xl) 85 23 [v0, v1, v2, v3] (.ref 28 :: st) I J Q = Rn (zG xl) 85 26 [v0, v1, v2, v3] (.int (I 28 6) :: st) I J Q := (rGf f85_23 rfl).trans (tr_and rfl)
theorem x85_26 : Rn S 85 26 [v0, v1, v2, v3] (.int a :: st) I J Q = Rn S 85 27 [zkl v0, .int a, v2, v3] st I J Q := rL f85_26 rfl rfl
theorem x85_27 : Rn S 85 27 [.ref q, v1, v2, v3] st I J Q = Rn S 85 28 [.ref q, v1, v2, v3] (.ref q :: st) I J Q := rL f85_27 rfl rfl
theorem x85_28_0 : Rn (zG xl) 85 28 [v0, v1, v2, v3] (.ref 0 :: st) I J Q = Rn (zG xl) 85 31 [v0, v1, v2, v3] (.ref 28 :: st) I J Q := (rGf f85_28 rfl).trans (tr_and rfl)
theorem x85_31 : Rn S 85 31 [v0, .int a, v2, v3] st I J Q = Rn S 85 32 [v0, .int a, v2, v3] (.int a :: st) I J Q := rL f85_31 rfl rfl
theorem x85_32 : Rn S 85 32 [v0, v1, v2, v3] st I J Q = Rn S 85 33 [v0, v1, v2, v3] (.int 1 :: st) I J Q := rS f85_32 rfl
theorem x85_33 : Rn S 85 33 [v0, v1, v2, v3] (.int b :: .int a :: st) I J Q = Rn S 85 34 [v0, v1, v2, v3] (.int (a + b) :: st) I J Q := rS f85_33 rfl
theorem x85_34_8 : Rn (zG xl) 85 34 [v0, v1, v2, v3] (.int a :: .ref 8 :: st) I J Q = Rn (zG xl) 85 37 [v0, v1, v2, v3] st (zr I 8 (upd (I 8) 6 a)) J Q := (rPf f85_34 rfl).trans (tr_pf rfl rfl rfl)
theorem x85_34_28 : Rn (zG xl) 85 34 [v0, v1, v2, v3] (.int a :: .ref 28 :: st) I J Q = Rn (zG xl) 85 37 [v0, v1, v2, v3] st (zr I 28 (upd (I 28) 6 a)) J Q := (rPf f85_34 rfl).trans (tr_pf rfl rfl rfl)
theorem x85_37 : Rn S 85 37 [v0, v1, v2, v3] st I J Q = Rn S 85 38 [v0, v1, v2, v3] (.int 0 :: st) I J Q := rS f85_37 rfl
theorem x85_38 : Rn S 85 38 [v0, v1, v2, v3] (.int a :: st) I J Q = Rn S 85 39 [v0, zkl v1, .int a, v3] st I J Q := rL f85_38 rfl rfl
theorem h85_39 : Rn S 85 39 [v0, v1, .int a, v3] st I J Q = Rn S 85 40 [v0, v1, .int a, v3] (.int a :: st) I J Q := rL f85_39 rfl rfl
theorem x85_40 : Rn S 85 40 [.ref q, v1, v2, v3] st I J Q = Rn S 85 41 [.ref q, v1, v2, v3] (.ref q :: st) I J Q := rL f85_40 rfl rfl
theorem x85_41_0 : Rn (zG xl) 85 41 [v0, v1, v2, v3] (.ref 0 :: st) I J Q = Rn (zG xl) 85 44 [v0, v1, v2, v3] (.ref 8 :: st) I J Q := (rGf f85_41 rfl).trans (tr_and rfl)
theorem x85_44_8 : Rn (zG xl) 85 44 [v0, v1, v2, v3] (.ref 8 :: st) I J Q = Rn (zG xl) 85 47 [v0, v1, v2, v3] (.int (I 8 3) :: st) I J Q := (rGf f85_44 rfl).trans (tr_and rfl)
theorem x85_44_28 : Rn (zG xl) 85 44 [v0, v1, v2, v3] (.ref 28 :: st) I J Q = Rn (zG xl) 85 47 [v0, v1, v2, v3] (.int (I 28 3) :: st) I J Q := (rGf f85_44 rfl).trans (tr_and rfl)
theorem x85_47 : Rn S 85 47 [v0, v1, v2, v3] (.int b :: .int a :: st) I J Q = if a < b then Rn S 85 50 [v0, v1, v2, v3] st I J Q else Rn S 85 101 [v0, v1, v2, v3] st I J Q := rCge f85_47 rfl rfl
theorem x85_50 : Rn S 85 50 [v0, v1, v2, v3] st I J Q = Rn S 85 51 [v0, v1, v2, v3] (.int 0 :: st) I J Q := rS f85_50 rfl
theorem x85_51 : Rn S 85 51 [v0, v1, v2, v3] (.int a :: st) I J Q = Rn S 85 52 [v0, v1, zkl v2, .int a] st I J Q := rL f85_51 rfl rfl
theorem h85_52 : Rn S 85 52 [v0, v1, v2, .int a] st I J Q = Rn S 85 53 [v0, v1, v2, .int a] (.int a :: st) I J Q := rL f85_52 rfl rfl
theorem x85_53 : Rn S 85 53 [.ref q, v1, v2, v3] st I J Q = Rn S 85 54 [.ref q, v1, v2, v3] (.ref q :: st) I J Q := rL f85_53 rfl rfl
theorem x85_54_0 : Rn (zG xl) 85 54 [v0, v1, v2, v3] (.ref 0 :: st) I J Q = Rn (zG xl) 85 57 [v0, v1, v2, v3] (.ref 8 :: st) I J Q := (rGf f85_54 rfl).trans (tr_and rfl)
theorem x85_57_8 : Rn (zG xl) 85 57 [v0, v1, v2, v3] (.ref 8 :: st) I J Q = Rn (zG xl) 85 60 [v0, v1, v2, v3] (.int (I 8 0) :: st) I J Q := (rGf f85_57 rfl).trans (tr_and rfl)
theorem x85_57_28 : Rn (zG xl) 85 57 [v0, v1, v2, v3] (.ref 28 :: st) I J Q = Rn (zG xl) 85 60 [v0, v1, v2, v3] (.int (I 28 0) :: st) I J Q := (rGf f85_57 rfl).trans (tr_and rfl)
theorem x85_60 : Rn S 85 60 [v0, v1, v2, v3] (.int b :: .int a :: st) I J Q = if a < b then Rn S 85 63 [v0, v1, v2, v3] st I J Q else Rn S 85 95 [v0, v1, v2, v3] st I J Q := rCge f85_60 rfl rfl
theorem x85_63 : Rn S 85 63 [.ref q, v1, v2, v3] st I J Q = Rn S 85 64 [.ref q, v1, v2, v3] (.ref q :: st) I J Q := rL f85_63 rfl rfl
theorem x85_64_0 : Rn (zG xl) 85 64 [v0, v1, v2, v3] (.ref 0 :: st) I J Q = Rn (zG xl) 85 67 [v0, v1, v2, v3] (.ref 28 :: st) I J Q := (rGf f85_64 rfl).trans (tr_and rfl)
theorem x85_67_8 : Rn (zG xl) 85 67 [v0, v1, v2, v3] (.ref 8 :: st) I J Q = Rn (zG xl) 85 70 [v0, v1, v2, v3] (.ref 13 :: st) I J Q := (rGf f85_67 rfl).trans (tr_and rfl)
theorem x85_67_28 : Rn (zG xl) 85 67 [v0, v1, v2, v3] (.ref 28 :: st) I J Q = Rn (zG xl) 85 70 [v0, v1, v2, v3] (.ref 33 :: st) I J Q := (rGf f85_67 rfl).trans (tr_and rfl)
theorem x85_70 : Rn S 85 70 [v0, .int a, v2, v3] st I J Q = Rn S 85 71 [v0, .int a, v2, v3] (.int a :: st) I J Q := rL f85_70 rfl rfl
theorem x85_71 : Rn S 85 71 [v0, v1, .int a, v3] st I J Q = Rn S 85 72 [v0, v1, .int a, v3] (.int a :: st) I J Q := rL f85_71 rfl rfl
theorem x85_72 : Rn S 85 72 [v0, v1, v2, v3] (.int b :: .int a :: .ref q :: st) I J Q = (zas S q a ∧ Rn S 85 73 [v0, v1, v2, v3] st (zr I q (upd (I q) a.toNatClampNeg b)) J Q) := rIas f85_72
theorem x85_73 : Rn S 85 73 [.ref q, v1, v2, v3] st I J Q = Rn S 85 74 [.ref q, v1, v2, v3] (.ref q :: st) I J Q := rL f85_73 rfl rfl
theorem x85_74_0 : Rn (zG xl) 85 74 [v0, v1, v2, v3] (.ref 0 :: st) I J Q = Rn (zG xl) 85 77 [v0, v1, v2, v3] (.ref 28 :: st) I J Q := (rGf f85_74 rfl).trans (tr_and rfl)
theorem x85_77_8 : Rn (zG xl) 85 77 [v0, v1, v2, v3] (.ref 8 :: st) I J Q = Rn (zG xl) 85 80 [v0, v1, v2, v3] (.ref 14 :: st) I J Q := (rGf f85_77 rfl).trans (tr_and rfl)
theorem x85_77_28 : Rn (zG xl) 85 77 [v0, v1, v2, v3] (.ref 28 :: st) I J Q = Rn (zG xl) 85 80 [v0, v1, v2, v3] (.ref 34 :: st) I J Q := (rGf f85_77 rfl).trans (tr_and rfl)
theorem x85_80 : Rn S 85 80 [v0, .int a, v2, v3] st I J Q = Rn S 85 81 [v0, .int a, v2, v3] (.int a :: st) I J Q := rL f85_80 rfl rfl
theorem x85_81 : Rn S 85 81 [v0, v1, v2, .int a] st I J Q = Rn S 85 82 [v0, v1, v2, .int a] (.int a :: st) I J Q := rL f85_81 rfl rfl
theorem x85_82 : Rn S 85 82 [v0, v1, v2, v3] (.int b :: .int a :: .ref q :: st) I J Q = (zas S q a ∧ Rn S 85 83 [v0, v1, v2, v3] st (zr I q (upd (I q) a.toNatClampNeg b)) J Q) := rIas f85_82
theorem x85_83 : Rn S 85 83 [.ref q, v1, v2, v3] st I J Q = Rn S 85 84 [.ref q, v1, v2, v3] (.ref q :: st) I J Q := rL f85_83 rfl rfl
theorem x85_84 : Rn S 85 84 [v0, v1, .int a, v3] st I J Q = Rn S 85 85 [v0, v1, .int a, v3] (.int a :: st) I J Q := rL f85_84 rfl rfl
theorem x85_85 : Rn S 85 85 [v0, v1, v2, .int a] st I J Q = Rn S 85 86 [v0, v1, v2, .int a] (.int a :: st) I J Q := rL f85_85 rfl rfl
theorem x85_86 : Rn S 85 86 [v0, v1, v2, v3] (.int a1 :: .int a0 :: .ref q :: st) I J Q = ((zcls S q = 5 ∧ zcs st ≤ 8) ∧ Rn S 87 0 [.ref q, .int a0, .int a1, .null] [] I J (fun v I' J' => Rn S 85 89 [v0, v1, v2, v3] (v.toList ++ st) I' J' Q)) := rCV (As := [.int a0, .int a1]) f85_86 rfl rfl rfl rfl (Nat.le_of_ble_eq_true rfl)
theorem x85_89 : Rn S 85 89 [v0, v1, v2, .int a] st I J Q = Rn S 85 92 [v0, v1, zkl v2, .int (a + 1)] st I J Q := rL f85_89 rfl rfl
theorem x85_92 : Rn S 85 92 [v0, v1, v2, v3] st I J Q = Rn S 85 52 [v0, v1, v2, v3] st I J Q := rB f85_92 rfl rfl rfl
theorem x85_95 : Rn S 85 95 [v0, v1, .int a, v3] st I J Q = Rn S 85 98 [v0, zkl v1, .int (a + 1), v3] st I J Q := rL f85_95 rfl rfl
theorem x85_98 : Rn S 85 98 [v0, v1, v2, v3] st I J Q = Rn S 85 39 [v0, v1, v2, v3] st I J Q := rB f85_98 rfl rfl rfl
theorem x85_101 : Rn S 85 101 [v0, v1, v2, v3] [] I J Q = Q none I J := rR f85_101 rfl rfl rfl rfl rfl
/-! X5.findTurn: 86 -/
theorem B86 : zB 86 = cX5_findTurn := rfl
theorem f86_0 : zft 86 0 = some (.aload_n 0, 1) := fet B86 (by decide +kernel) (Or.inr rfl)
theorem f86_1 : zft 86 1 = some (.getfield 58, 3) := fet B86 (by decide +kernel) (Or.inr rfl)
theorem f86_4 : zft 86 4 = some (.iconst (-1), 1) := fet B86 (by decide +kernel) (Or.inr rfl)
theorem f86_5 : zft 86 5 = some (.invokestatic 353, 3) := fet B86 (by decide +kernel) (Or.inr rfl)
theorem f86_8 : zft 86 8 = some (.aload_n 0, 1) := fet B86 (by decide +kernel) (Or.inr rfl)
theorem f86_9 : zft 86 9 = some (.getfield 38, 3) := fet B86 (by decide +kernel) (Or.inr rfl)
theorem f86_12 : zft 86 12 = some (.aload_n 0, 1) := fet B86 (by decide +kernel) (Or.inr rfl)
theorem f86_13 : zft 86 13 = some (.getfield 27, 3) := fet B86 (by decide +kernel) (Or.inr rfl)
theorem f86_16 : zft 86 16 = some (.invokevirtual 197, 3) := fet B86 (by decide +kernel) (Or.inr rfl)
theorem f86_19 : zft 86 19 = some (.iconst 0, 1) := fet B86 (by decide +kernel) (Or.inr rfl)
theorem f86_20 : zft 86 20 = some (.istore_n 1, 1) := fet B86 (by decide +kernel) (Or.inr rfl)
theorem f86_21 : zft 86 21 = some (.iload_n 1, 1) := fet B86 (by decide +kernel) (Or.inr rfl)
theorem f86_22 : zft 86 22 = some (.aload_n 0, 1) := fet B86 (by decide +kernel) (Or.inr rfl)
theorem f86_23 : zft 86 23 = some (.getfield 27, 3) := fet B86 (by decide +kernel) (Or.inr rfl)
theorem f86_26 : zft 86 26 = some (.getfield 111, 3) := fet B86 (by decide +kernel) (Or.inr rfl)
theorem f86_29 : zft 86 29 = some (.if_icmp .ge 54, 3) := fet B86 (by decide +kernel) (Or.inr rfl)
theorem f86_32 : zft 86 32 = some (.iload_n 1, 1) := fet B86 (by decide +kernel) (Or.inr rfl)
theorem f86_33 : zft 86 33 = some (.iconst 1, 1) := fet B86 (by decide +kernel) (Or.inr rfl)
theorem f86_34 : zft 86 34 = some (.iadd, 1) := fet B86 (by decide +kernel) (Or.inr rfl)
theorem f86_35 : zft 86 35 = some (.istore_n 2, 1) := fet B86 (by decide +kernel) (Or.inr rfl)
theorem f86_36 : zft 86 36 = some (.iload_n 2, 1) := fet B86 (by decide +kernel) (Or.inr rfl)
theorem f86_37 : zft 86 37 = some (.aload_n 0, 1) := fet B86 (by decide +kernel) (Or.inr rfl)
theorem f86_38 : zft 86 38 = some (.getfield 27, 3) := fet B86 (by decide +kernel) (Or.inr rfl)
theorem f86_41 : zft 86 41 = some (.getfield 111, 3) := fet B86 (by decide +kernel) (Or.inr rfl)
theorem f86_44 : zft 86 44 = some (.if_icmp .ge 33, 3) := fet B86 (by decide +kernel) (Or.inr rfl)
theorem f86_47 : zft 86 47 = some (.aload_n 0, 1) := fet B86 (by decide +kernel) (Or.inr rfl)
theorem f86_48 : zft 86 48 = some (.getfield 38, 3) := fet B86 (by decide +kernel) (Or.inr rfl)
theorem f86_51 : zft 86 51 = some (.iload_n 1, 1) := fet B86 (by decide +kernel) (Or.inr rfl)
theorem f86_52 : zft 86 52 = some (.iload_n 2, 1) := fet B86 (by decide +kernel) (Or.inr rfl)
theorem f86_53 : zft 86 53 = some (.invokevirtual 362, 3) := fet B86 (by decide +kernel) (Or.inr rfl)
theorem f86_56 : zft 86 56 = some (.aload_n 0, 1) := fet B86 (by decide +kernel) (Or.inr rfl)
theorem f86_57 : zft 86 57 = some (.iload_n 1, 1) := fet B86 (by decide +kernel) (Or.inr rfl)
theorem f86_58 : zft 86 58 = some (.iload_n 2, 1) := fet B86 (by decide +kernel) (Or.inr rfl)
theorem f86_59 : zft 86 59 = some (.invokevirtual 359, 3) := fet B86 (by decide +kernel) (Or.inr rfl)
theorem f86_62 : zft 86 62 = some (.aload_n 0, 1) := fet B86 (by decide +kernel) (Or.inr rfl)
theorem f86_63 : zft 86 63 = some (.getfield 38, 3) := fet B86 (by decide +kernel) (Or.inr rfl)
theorem f86_66 : zft 86 66 = some (.iload_n 1, 1) := fet B86 (by decide +kernel) (Or.inr rfl)
theorem f86_67 : zft 86 67 = some (.iload_n 2, 1) := fet B86 (by decide +kernel) (Or.inr rfl)
theorem f86_68 : zft 86 68 = some (.invokevirtual 362, 3) := fet B86 (by decide +kernel) (Or.inr rfl)
theorem f86_71 : zft 86 71 = some (.iinc 2 1, 3) := fet B86 (by decide +kernel) (Or.inr rfl)
theorem f86_74 : zft 86 74 = some (.goto (-38), 3) := fet B86 (by decide +kernel) (Or.inr rfl)
theorem f86_77 : zft 86 77 = some (.iinc 1 1, 3) := fet B86 (by decide +kernel) (Or.inr rfl)
theorem f86_80 : zft 86 80 = some (.goto (-59), 3) := fet B86 (by decide +kernel) (Or.inr rfl)
theorem f86_83 : zft 86 83 = some (.return_, 1) := fet B86 (by decide +kernel) (Or.inr rfl)
theorem x86_0 : Rn S 86 0 [.ref q, v1, v2] st I J Q = Rn S 86 1 [.ref q, v1, v2] (.ref q :: st) I J Q := rL f86_0 rfl rfl
theorem x86_1_0 : Rn (zG xl) 86 1 [v0, v1, v2] (.ref 0 :: st) I J Q = Rn (zG xl) 86 4 [v0, v1, v2] (.ref 61 :: st) I J Q := (rGf f86_1 rfl).trans (tr_and rfl)
theorem x86_4 : Rn S 86 4 [v0, v1, v2] st I J Q = Rn S 86 5 [v0, v1, v2] (.int (-1) :: st) I J Q := rS f86_4 rfl
theorem x86_5 : Rn S 86 5 [v0, v1, v2] (.int a1 :: .ref q0 :: st) I J Q = (zcs st ≤ 8 ∧ Rn S 198 0 [.ref q0, .int a1, .null, .null] [] I J (fun v I' J' => Rn S 86 8 [v0, v1, v2] (v.toList ++ st) I' J' Q)) := rCS (As := [.ref q0, .int a1]) f86_5 rfl rfl rfl rfl (Nat.le_of_ble_eq_true rfl)
theorem x86_8 : Rn S 86 8 [.ref q, v1, v2] st I J Q = Rn S 86 9 [.ref q, v1, v2] (.ref q :: st) I J Q := rL f86_8 rfl rfl
theorem x86_9_0 : Rn (zG xl) 86 9 [v0, v1, v2] (.ref 0 :: st) I J Q = Rn (zG xl) 86 12 [v0, v1, v2] (.ref 28 :: st) I J Q := (rGf f86_9 rfl).trans (tr_and rfl)
theorem x86_12 : Rn S 86 12 [.ref q, v1, v2] st I J Q = Rn S 86 13 [.ref q, v1, v2] (.ref q :: st) I J Q := rL f86_12 rfl rfl
theorem x86_13_0 : Rn (zG xl) 86 13 [v0, v1, v2] (.ref 0 :: st) I J Q = Rn (zG xl) 86 16 [v0, v1, v2] (.ref 8 :: st) I J Q := (rGf f86_13 rfl).trans (tr_and rfl)
theorem x86_16 : Rn S 86 16 [v0, v1, v2] (.ref q0 :: .ref q :: st) I J Q = ((zcls S q = 1 ∧ zcs st ≤ 8) ∧ Rn S 14 0 [.ref q, .ref q0] [] I J (fun v I' J' => Rn S 86 19 [v0, v1, v2] (v.toList ++ st) I' J' Q)) := rCV (As := [.ref q0]) f86_16 rfl rfl rfl rfl (Nat.le_of_ble_eq_true rfl)
theorem x86_19 : Rn S 86 19 [v0, v1, v2] st I J Q = Rn S 86 20 [v0, v1, v2] (.int 0 :: st) I J Q := rS f86_19 rfl
theorem x86_20 : Rn S 86 20 [v0, v1, v2] (.int a :: st) I J Q = Rn S 86 21 [zkl v0, .int a, v2] st I J Q := rL f86_20 rfl rfl
theorem h86_21 : Rn S 86 21 [v0, .int a, v2] st I J Q = Rn S 86 22 [v0, .int a, v2] (.int a :: st) I J Q := rL f86_21 rfl rfl
theorem x86_22 : Rn S 86 22 [.ref q, v1, v2] st I J Q = Rn S 86 23 [.ref q, v1, v2] (.ref q :: st) I J Q := rL f86_22 rfl rfl
theorem x86_23_0 : Rn (zG xl) 86 23 [v0, v1, v2] (.ref 0 :: st) I J Q = Rn (zG xl) 86 26 [v0, v1, v2] (.ref 8 :: st) I J Q := (rGf f86_23 rfl).trans (tr_and rfl)
theorem x86_26_8 : Rn (zG xl) 86 26 [v0, v1, v2] (.ref 8 :: st) I J Q = Rn (zG xl) 86 29 [v0, v1, v2] (.int (I 8 6) :: st) I J Q := (rGf f86_26 rfl).trans (tr_and rfl)
theorem x86_26_28 : Rn (zG xl) 86 26 [v0, v1, v2] (.ref 28 :: st) I J Q = Rn (zG xl) 86 29 [v0, v1, v2] (.int (I 28 6) :: st) I J Q := (rGf f86_26 rfl).trans (tr_and rfl)
theorem x86_29 : Rn S 86 29 [v0, v1, v2] (.int b :: .int a :: st) I J Q = if a < b then Rn S 86 32 [v0, v1, v2] st I J Q else Rn S 86 83 [v0, v1, v2] st I J Q := rCge f86_29 rfl rfl
theorem x86_32 : Rn S 86 32 [v0, .int a, v2] st I J Q = Rn S 86 33 [v0, .int a, v2] (.int a :: st) I J Q := rL f86_32 rfl rfl
theorem x86_33 : Rn S 86 33 [v0, v1, v2] st I J Q = Rn S 86 34 [v0, v1, v2] (.int 1 :: st) I J Q := rS f86_33 rfl
theorem x86_34 : Rn S 86 34 [v0, v1, v2] (.int b :: .int a :: st) I J Q = Rn S 86 35 [v0, v1, v2] (.int (a + b) :: st) I J Q := rS f86_34 rfl
theorem x86_35 : Rn S 86 35 [v0, v1, v2] (.int a :: st) I J Q = Rn S 86 36 [v0, zkl v1, .int a] st I J Q := rL f86_35 rfl rfl
theorem h86_36 : Rn S 86 36 [v0, v1, .int a] st I J Q = Rn S 86 37 [v0, v1, .int a] (.int a :: st) I J Q := rL f86_36 rfl rfl
theorem x86_37 : Rn S 86 37 [.ref q, v1, v2] st I J Q = Rn S 86 38 [.ref q, v1, v2] (.ref q :: st) I J Q := rL f86_37 rfl rfl
theorem x86_38_0 : Rn (zG xl) 86 38 [v0, v1, v2] (.ref 0 :: st) I J Q = Rn (zG xl) 86 41 [v0, v1, v2] (.ref 8 :: st) I J Q := (rGf f86_38 rfl).trans (tr_and rfl)
theorem x86_41_8 : Rn (zG xl) 86 41 [v0, v1, v2] (.ref 8 :: st) I J Q = Rn (zG xl) 86 44 [v0, v1, v2] (.int (I 8 6) :: st) I J Q := (rGf f86_41 rfl).trans (tr_and rfl)
theorem x86_41_28 : Rn (zG xl) 86 41 [v0, v1, v2] (.ref 28 :: st) I J Q = Rn (zG xl) 86 44 [v0, v1, v2] (.int (I 28 6) :: st) I J Q := (rGf f86_41 rfl).trans (tr_and rfl)
theorem x86_44 : Rn S 86 44 [v0, v1, v2] (.int b :: .int a :: st) I J Q = if a < b then Rn S 86 47 [v0, v1, v2] st I J Q else Rn S 86 77 [v0, v1, v2] st I J Q := rCge f86_44 rfl rfl
theorem x86_47 : Rn S 86 47 [.ref q, v1, v2] st I J Q = Rn S 86 48 [.ref q, v1, v2] (.ref q :: st) I J Q := rL f86_47 rfl rfl
theorem x86_48_0 : Rn (zG xl) 86 48 [v0, v1, v2] (.ref 0 :: st) I J Q = Rn (zG xl) 86 51 [v0, v1, v2] (.ref 28 :: st) I J Q := (rGf f86_48 rfl).trans (tr_and rfl)
theorem x86_51 : Rn S 86 51 [v0, .int a, v2] st I J Q = Rn S 86 52 [v0, .int a, v2] (.int a :: st) I J Q := rL f86_51 rfl rfl
theorem x86_52 : Rn S 86 52 [v0, v1, .int a] st I J Q = Rn S 86 53 [v0, v1, .int a] (.int a :: st) I J Q := rL f86_52 rfl rfl
theorem x86_53 : Rn S 86 53 [v0, v1, v2] (.int a1 :: .int a0 :: .ref q :: st) I J Q = ((zcls S q = 1 ∧ zcs st ≤ 8) ∧ Rn S 17 0 [.ref q, .int a0, .int a1, .null, .null] [] I J (fun v I' J' => Rn S 86 56 [v0, v1, v2] (v.toList ++ st) I' J' Q)) := rCV (As := [.int a0, .int a1]) f86_53 rfl rfl rfl rfl (Nat.le_of_ble_eq_true rfl)
theorem x86_56 : Rn S 86 56 [.ref q, v1, v2] st I J Q = Rn S 86 57 [.ref q, v1, v2] (.ref q :: st) I J Q := rL f86_56 rfl rfl
theorem x86_57 : Rn S 86 57 [v0, .int a, v2] st I J Q = Rn S 86 58 [v0, .int a, v2] (.int a :: st) I J Q := rL f86_57 rfl rfl
theorem x86_58 : Rn S 86 58 [v0, v1, .int a] st I J Q = Rn S 86 59 [v0, v1, .int a] (.int a :: st) I J Q := rL f86_58 rfl rfl
theorem x86_59 : Rn S 86 59 [v0, v1, v2] (.int a1 :: .int a0 :: .ref q :: st) I J Q = ((zcls S q = 5 ∧ zcs st ≤ 8) ∧ Rn S 87 0 [.ref q, .int a0, .int a1, .null] [] I J (fun v I' J' => Rn S 86 62 [v0, v1, v2] (v.toList ++ st) I' J' Q)) := rCV (As := [.int a0, .int a1]) f86_59 rfl rfl rfl rfl (Nat.le_of_ble_eq_true rfl)
theorem x86_62 : Rn S 86 62 [.ref q, v1, v2] st I J Q = Rn S 86 63 [.ref q, v1, v2] (.ref q :: st) I J Q := rL f86_62 rfl rfl
theorem x86_63_0 : Rn (zG xl) 86 63 [v0, v1, v2] (.ref 0 :: st) I J Q = Rn (zG xl) 86 66 [v0, v1, v2] (.ref 28 :: st) I J Q := (rGf f86_63 rfl).trans (tr_and rfl)
theorem x86_66 : Rn S 86 66 [v0, .int a, v2] st I J Q = Rn S 86 67 [v0, .int a, v2] (.int a :: st) I J Q := rL f86_66 rfl rfl
theorem x86_67 : Rn S 86 67 [v0, v1, .int a] st I J Q = Rn S 86 68 [v0, v1, .int a] (.int a :: st) I J Q := rL f86_67 rfl rfl
theorem x86_68 : Rn S 86 68 [v0, v1, v2] (.int a1 :: .int a0 :: .ref q :: st) I J Q = ((zcls S q = 1 ∧ zcs st ≤ 8) ∧ Rn S 17 0 [.ref q, .int a0, .int a1, .null, .null] [] I J (fun v I' J' => Rn S 86 71 [v0, v1, v2] (v.toList ++ st) I' J' Q)) := rCV (As := [.int a0, .int a1]) f86_68 rfl rfl rfl rfl (Nat.le_of_ble_eq_true rfl)
theorem x86_71 : Rn S 86 71 [v0, v1, .int a] st I J Q = Rn S 86 74 [v0, zkl v1, .int (a + 1)] st I J Q := rL f86_71 rfl rfl
theorem x86_74 : Rn S 86 74 [v0, v1, v2] st I J Q = Rn S 86 36 [v0, v1, v2] st I J Q := rB f86_74 rfl rfl rfl
theorem x86_77 : Rn S 86 77 [v0, .int a, v2] st I J Q = Rn S 86 80 [zkl v0, .int (a + 1), v2] st I J Q := rL f86_77 rfl rfl
theorem x86_80 : Rn S 86 80 [v0, v1, v2] st I J Q = Rn S 86 21 [v0, v1, v2] st I J Q := rB f86_80 rfl rfl rfl
theorem x86_83 : Rn S 86 83 [v0, v1, v2] [] I J Q = Q none I J := rR f86_83 rfl rfl rfl rfl rfl
/-! X5.keepIfBetter: 87 -/
theorem B87 : zB 87 = cX5_keepIfBetter := rfl
theorem f87_0 : zft 87 0 = some (.aload_n 0, 1) := fet B87 (by decide +kernel) (Or.inr rfl)
theorem f87_1 : zft 87 1 = some (.getfield 41, 3) := fet B87 (by decide +kernel) (Or.inr rfl)
theorem f87_4 : zft 87 4 = some (.aload_n 0, 1) := fet B87 (by decide +kernel) (Or.inr rfl)
theorem f87_5 : zft 87 5 = some (.getfield 38, 3) := fet B87 (by decide +kernel) (Or.inr rfl)
theorem f87_8 : zft 87 8 = some (.invokevirtual 123, 3) := fet B87 (by decide +kernel) (Or.inr rfl)
theorem f87_11 : zft 87 11 = some (.aload_n 0, 1) := fet B87 (by decide +kernel) (Or.inr rfl)
theorem f87_12 : zft 87 12 = some (.getfield 41, 3) := fet B87 (by decide +kernel) (Or.inr rfl)
theorem f87_15 : zft 87 15 = some (.aload_n 0, 1) := fet B87 (by decide +kernel) (Or.inr rfl)
theorem f87_16 : zft 87 16 = some (.getfield 38, 3) := fet B87 (by decide +kernel) (Or.inr rfl)
theorem f87_19 : zft 87 19 = some (.invokevirtual 184, 3) := fet B87 (by decide +kernel) (Or.inr rfl)
theorem f87_22 : zft 87 22 = some (.istore_n 3, 1) := fet B87 (by decide +kernel) (Or.inr rfl)
theorem f87_23 : zft 87 23 = some (.aload_n 0, 1) := fet B87 (by decide +kernel) (Or.inr rfl)
theorem f87_24 : zft 87 24 = some (.getfield 58, 3) := fet B87 (by decide +kernel) (Or.inr rfl)
theorem f87_27 : zft 87 27 = some (.iconst 2, 1) := fet B87 (by decide +kernel) (Or.inr rfl)
theorem f87_28 : zft 87 28 = some (.iaload, 1) := fet B87 (by decide +kernel) (Or.inr rfl)
theorem f87_29 : zft 87 29 = some (.iconst (-1), 1) := fet B87 (by decide +kernel) (Or.inr rfl)
theorem f87_30 : zft 87 30 = some (.if_icmp .eq 13, 3) := fet B87 (by decide +kernel) (Or.inr rfl)
theorem f87_33 : zft 87 33 = some (.iload_n 3, 1) := fet B87 (by decide +kernel) (Or.inr rfl)
theorem f87_34 : zft 87 34 = some (.aload_n 0, 1) := fet B87 (by decide +kernel) (Or.inr rfl)
theorem f87_35 : zft 87 35 = some (.getfield 58, 3) := fet B87 (by decide +kernel) (Or.inr rfl)
theorem f87_38 : zft 87 38 = some (.iconst 2, 1) := fet B87 (by decide +kernel) (Or.inr rfl)
theorem f87_39 : zft 87 39 = some (.iaload, 1) := fet B87 (by decide +kernel) (Or.inr rfl)
theorem f87_40 : zft 87 40 = some (.if_icmp .ge 24, 3) := fet B87 (by decide +kernel) (Or.inr rfl)
theorem f87_43 : zft 87 43 = some (.aload_n 0, 1) := fet B87 (by decide +kernel) (Or.inr rfl)
theorem f87_44 : zft 87 44 = some (.getfield 58, 3) := fet B87 (by decide +kernel) (Or.inr rfl)
theorem f87_47 : zft 87 47 = some (.iconst 0, 1) := fet B87 (by decide +kernel) (Or.inr rfl)
theorem f87_48 : zft 87 48 = some (.iload_n 1, 1) := fet B87 (by decide +kernel) (Or.inr rfl)
theorem f87_49 : zft 87 49 = some (.iastore, 1) := fet B87 (by decide +kernel) (Or.inr rfl)
theorem f87_50 : zft 87 50 = some (.aload_n 0, 1) := fet B87 (by decide +kernel) (Or.inr rfl)
theorem f87_51 : zft 87 51 = some (.getfield 58, 3) := fet B87 (by decide +kernel) (Or.inr rfl)
theorem f87_54 : zft 87 54 = some (.iconst 1, 1) := fet B87 (by decide +kernel) (Or.inr rfl)
theorem f87_55 : zft 87 55 = some (.iload_n 2, 1) := fet B87 (by decide +kernel) (Or.inr rfl)
theorem f87_56 : zft 87 56 = some (.iastore, 1) := fet B87 (by decide +kernel) (Or.inr rfl)
theorem f87_57 : zft 87 57 = some (.aload_n 0, 1) := fet B87 (by decide +kernel) (Or.inr rfl)
theorem f87_58 : zft 87 58 = some (.getfield 58, 3) := fet B87 (by decide +kernel) (Or.inr rfl)
theorem f87_61 : zft 87 61 = some (.iconst 2, 1) := fet B87 (by decide +kernel) (Or.inr rfl)
theorem f87_62 : zft 87 62 = some (.iload_n 3, 1) := fet B87 (by decide +kernel) (Or.inr rfl)
theorem f87_63 : zft 87 63 = some (.iastore, 1) := fet B87 (by decide +kernel) (Or.inr rfl)
theorem f87_64 : zft 87 64 = some (.return_, 1) := fet B87 (by decide +kernel) (Or.inr rfl)
theorem x87_0 : Rn S 87 0 [.ref q, v1, v2, v3] st I J Q = Rn S 87 1 [.ref q, v1, v2, v3] (.ref q :: st) I J Q := rL f87_0 rfl rfl
theorem x87_1_0 : Rn (zG xl) 87 1 [v0, v1, v2, v3] (.ref 0 :: st) I J Q = Rn (zG xl) 87 4 [v0, v1, v2, v3] (.ref 38 :: st) I J Q := (rGf f87_1 rfl).trans (tr_and rfl)
theorem x87_4 : Rn S 87 4 [.ref q, v1, v2, v3] st I J Q = Rn S 87 5 [.ref q, v1, v2, v3] (.ref q :: st) I J Q := rL f87_4 rfl rfl
theorem x87_5_0 : Rn (zG xl) 87 5 [v0, v1, v2, v3] (.ref 0 :: st) I J Q = Rn (zG xl) 87 8 [v0, v1, v2, v3] (.ref 28 :: st) I J Q := (rGf f87_5 rfl).trans (tr_and rfl)
theorem x87_8 : Rn S 87 8 [v0, v1, v2, v3] (.ref q0 :: .ref q :: st) I J Q = ((zcls S q = 0 ∧ zcs st ≤ 8) ∧ Rn S 1 0 [.ref q, .ref q0, .null, .null] [] I J (fun v I' J' => Rn S 87 11 [v0, v1, v2, v3] (v.toList ++ st) I' J' Q)) := rCV (As := [.ref q0]) f87_8 rfl rfl rfl rfl (Nat.le_of_ble_eq_true rfl)
theorem x87_11 : Rn S 87 11 [.ref q, v1, v2, v3] st I J Q = Rn S 87 12 [.ref q, v1, v2, v3] (.ref q :: st) I J Q := rL f87_11 rfl rfl
theorem x87_12_0 : Rn (zG xl) 87 12 [v0, v1, v2, v3] (.ref 0 :: st) I J Q = Rn (zG xl) 87 15 [v0, v1, v2, v3] (.ref 38 :: st) I J Q := (rGf f87_12 rfl).trans (tr_and rfl)
theorem x87_15 : Rn S 87 15 [.ref q, v1, v2, v3] st I J Q = Rn S 87 16 [.ref q, v1, v2, v3] (.ref q :: st) I J Q := rL f87_15 rfl rfl
theorem x87_16_0 : Rn (zG xl) 87 16 [v0, v1, v2, v3] (.ref 0 :: st) I J Q = Rn (zG xl) 87 19 [v0, v1, v2, v3] (.ref 28 :: st) I J Q := (rGf f87_16 rfl).trans (tr_and rfl)
theorem x87_19 : Rn S 87 19 [v0, v1, v2, v3] (.ref q0 :: .ref q :: st) I J Q = ((zcls S q = 0 ∧ zcs st ≤ 8) ∧ Rn S 8 0 [.ref q, .ref q0, .null, .null] [] I J (fun v I' J' => Rn S 87 22 [v0, v1, v2, v3] (v.toList ++ st) I' J' Q)) := rCV (As := [.ref q0]) f87_19 rfl rfl rfl rfl (Nat.le_of_ble_eq_true rfl)
theorem x87_22 : Rn S 87 22 [v0, v1, v2, v3] (.int a :: st) I J Q = Rn S 87 23 [v0, v1, zkl v2, .int a] st I J Q := rL f87_22 rfl rfl
theorem x87_23 : Rn S 87 23 [.ref q, v1, v2, v3] st I J Q = Rn S 87 24 [.ref q, v1, v2, v3] (.ref q :: st) I J Q := rL f87_23 rfl rfl
theorem x87_24_0 : Rn (zG xl) 87 24 [v0, v1, v2, v3] (.ref 0 :: st) I J Q = Rn (zG xl) 87 27 [v0, v1, v2, v3] (.ref 61 :: st) I J Q := (rGf f87_24 rfl).trans (tr_and rfl)
theorem x87_27 : Rn S 87 27 [v0, v1, v2, v3] st I J Q = Rn S 87 28 [v0, v1, v2, v3] (.int 2 :: st) I J Q := rS f87_27 rfl
theorem x87_28 : Rn S 87 28 [v0, v1, v2, v3] (.int a :: .ref q :: st) I J Q = (zai S q a ∧ Rn S 87 29 [v0, v1, v2, v3] (.int (I q a.toNatClampNeg) :: st) I J Q) := rIal f87_28
theorem x87_29 : Rn S 87 29 [v0, v1, v2, v3] st I J Q = Rn S 87 30 [v0, v1, v2, v3] (.int (-1) :: st) I J Q := rS f87_29 rfl
theorem x87_30 : Rn S 87 30 [v0, v1, v2, v3] (.int b :: .int a :: st) I J Q = if a = b then Rn S 87 43 [v0, v1, v2, v3] st I J Q else Rn S 87 33 [v0, v1, v2, v3] st I J Q := rCeq f87_30 rfl rfl
theorem x87_33 : Rn S 87 33 [v0, v1, v2, .int a] st I J Q = Rn S 87 34 [v0, v1, v2, .int a] (.int a :: st) I J Q := rL f87_33 rfl rfl
theorem x87_34 : Rn S 87 34 [.ref q, v1, v2, v3] st I J Q = Rn S 87 35 [.ref q, v1, v2, v3] (.ref q :: st) I J Q := rL f87_34 rfl rfl
theorem x87_35_0 : Rn (zG xl) 87 35 [v0, v1, v2, v3] (.ref 0 :: st) I J Q = Rn (zG xl) 87 38 [v0, v1, v2, v3] (.ref 61 :: st) I J Q := (rGf f87_35 rfl).trans (tr_and rfl)
theorem x87_38 : Rn S 87 38 [v0, v1, v2, v3] st I J Q = Rn S 87 39 [v0, v1, v2, v3] (.int 2 :: st) I J Q := rS f87_38 rfl
theorem x87_39 : Rn S 87 39 [v0, v1, v2, v3] (.int a :: .ref q :: st) I J Q = (zai S q a ∧ Rn S 87 40 [v0, v1, v2, v3] (.int (I q a.toNatClampNeg) :: st) I J Q) := rIal f87_39
theorem x87_40 : Rn S 87 40 [v0, v1, v2, v3] (.int b :: .int a :: st) I J Q = if a < b then Rn S 87 43 [v0, v1, v2, v3] st I J Q else Rn S 87 64 [v0, v1, v2, v3] st I J Q := rCge f87_40 rfl rfl
theorem x87_43 : Rn S 87 43 [.ref q, v1, v2, v3] st I J Q = Rn S 87 44 [.ref q, v1, v2, v3] (.ref q :: st) I J Q := rL f87_43 rfl rfl
theorem x87_44_0 : Rn (zG xl) 87 44 [v0, v1, v2, v3] (.ref 0 :: st) I J Q = Rn (zG xl) 87 47 [v0, v1, v2, v3] (.ref 61 :: st) I J Q := (rGf f87_44 rfl).trans (tr_and rfl)
theorem x87_47 : Rn S 87 47 [v0, v1, v2, v3] st I J Q = Rn S 87 48 [v0, v1, v2, v3] (.int 0 :: st) I J Q := rS f87_47 rfl
theorem x87_48 : Rn S 87 48 [v0, .int a, v2, v3] st I J Q = Rn S 87 49 [v0, .int a, v2, v3] (.int a :: st) I J Q := rL f87_48 rfl rfl
theorem x87_49 : Rn S 87 49 [v0, v1, v2, v3] (.int b :: .int a :: .ref q :: st) I J Q = (zas S q a ∧ Rn S 87 50 [v0, v1, v2, v3] st (zr I q (upd (I q) a.toNatClampNeg b)) J Q) := rIas f87_49
theorem x87_50 : Rn S 87 50 [.ref q, v1, v2, v3] st I J Q = Rn S 87 51 [.ref q, v1, v2, v3] (.ref q :: st) I J Q := rL f87_50 rfl rfl
theorem x87_51_0 : Rn (zG xl) 87 51 [v0, v1, v2, v3] (.ref 0 :: st) I J Q = Rn (zG xl) 87 54 [v0, v1, v2, v3] (.ref 61 :: st) I J Q := (rGf f87_51 rfl).trans (tr_and rfl)
theorem x87_54 : Rn S 87 54 [v0, v1, v2, v3] st I J Q = Rn S 87 55 [v0, v1, v2, v3] (.int 1 :: st) I J Q := rS f87_54 rfl
theorem x87_55 : Rn S 87 55 [v0, v1, .int a, v3] st I J Q = Rn S 87 56 [v0, v1, .int a, v3] (.int a :: st) I J Q := rL f87_55 rfl rfl
theorem x87_56 : Rn S 87 56 [v0, v1, v2, v3] (.int b :: .int a :: .ref q :: st) I J Q = (zas S q a ∧ Rn S 87 57 [v0, v1, v2, v3] st (zr I q (upd (I q) a.toNatClampNeg b)) J Q) := rIas f87_56
theorem x87_57 : Rn S 87 57 [.ref q, v1, v2, v3] st I J Q = Rn S 87 58 [.ref q, v1, v2, v3] (.ref q :: st) I J Q := rL f87_57 rfl rfl
theorem x87_58_0 : Rn (zG xl) 87 58 [v0, v1, v2, v3] (.ref 0 :: st) I J Q = Rn (zG xl) 87 61 [v0, v1, v2, v3] (.ref 61 :: st) I J Q := (rGf f87_58 rfl).trans (tr_and rfl)
theorem x87_61 : Rn S 87 61 [v0, v1, v2, v3] st I J Q = Rn S 87 62 [v0, v1, v2, v3] (.int 2 :: st) I J Q := rS f87_61 rfl
theorem x87_62 : Rn S 87 62 [v0, v1, v2, .int a] st I J Q = Rn S 87 63 [v0, v1, v2, .int a] (.int a :: st) I J Q := rL f87_62 rfl rfl
theorem x87_63 : Rn S 87 63 [v0, v1, v2, v3] (.int b :: .int a :: .ref q :: st) I J Q = (zas S q a ∧ Rn S 87 64 [v0, v1, v2, v3] st (zr I q (upd (I q) a.toNatClampNeg b)) J Q) := rIas f87_63
theorem x87_64 : Rn S 87 64 [v0, v1, v2, v3] [] I J Q = Q none I J := rR f87_64 rfl rfl rfl rfl rfl
/-! X5.findHush: 88 -/
theorem B88 : zB 88 = cX5_findHush := rfl
theorem f88_0 : zft 88 0 = some (.aload_n 0, 1) := fet B88 (by decide +kernel) (Or.inr rfl)
theorem f88_1 : zft 88 1 = some (.getfield 62, 3) := fet B88 (by decide +kernel) (Or.inr rfl)
theorem f88_4 : zft 88 4 = some (.iconst (-1), 1) := fet B88 (by decide +kernel) (Or.inr rfl)
theorem f88_5 : zft 88 5 = some (.invokestatic 353, 3) := fet B88 (by decide +kernel) (Or.inr rfl)
theorem f88_8 : zft 88 8 = some (.aload_n 0, 1) := fet B88 (by decide +kernel) (Or.inr rfl)
theorem f88_9 : zft 88 9 = some (.getfield 38, 3) := fet B88 (by decide +kernel) (Or.inr rfl)
theorem f88_12 : zft 88 12 = some (.aload_n 0, 1) := fet B88 (by decide +kernel) (Or.inr rfl)
theorem f88_13 : zft 88 13 = some (.getfield 27, 3) := fet B88 (by decide +kernel) (Or.inr rfl)
theorem f88_16 : zft 88 16 = some (.invokevirtual 197, 3) := fet B88 (by decide +kernel) (Or.inr rfl)
theorem f88_19 : zft 88 19 = some (.aload_n 0, 1) := fet B88 (by decide +kernel) (Or.inr rfl)
theorem f88_20 : zft 88 20 = some (.iconst 0, 1) := fet B88 (by decide +kernel) (Or.inr rfl)
theorem f88_21 : zft 88 21 = some (.invokevirtual 365, 3) := fet B88 (by decide +kernel) (Or.inr rfl)
theorem f88_24 : zft 88 24 = some (.ifCond .eq 11, 3) := fet B88 (by decide +kernel) (Or.inr rfl)
theorem f88_27 : zft 88 27 = some (.aload_n 0, 1) := fet B88 (by decide +kernel) (Or.inr rfl)
theorem f88_28 : zft 88 28 = some (.getfield 62, 3) := fet B88 (by decide +kernel) (Or.inr rfl)
theorem f88_31 : zft 88 31 = some (.iconst 0, 1) := fet B88 (by decide +kernel) (Or.inr rfl)
theorem f88_32 : zft 88 32 = some (.iconst 0, 1) := fet B88 (by decide +kernel) (Or.inr rfl)
theorem f88_33 : zft 88 33 = some (.iastore, 1) := fet B88 (by decide +kernel) (Or.inr rfl)
theorem f88_34 : zft 88 34 = some (.return_, 1) := fet B88 (by decide +kernel) (Or.inr rfl)
theorem f88_35 : zft 88 35 = some (.iconst 0, 1) := fet B88 (by decide +kernel) (Or.inr rfl)
theorem f88_36 : zft 88 36 = some (.istore_n 1, 1) := fet B88 (by decide +kernel) (Or.inr rfl)
theorem f88_37 : zft 88 37 = some (.iload_n 1, 1) := fet B88 (by decide +kernel) (Or.inr rfl)
theorem f88_38 : zft 88 38 = some (.aload_n 0, 1) := fet B88 (by decide +kernel) (Or.inr rfl)
theorem f88_39 : zft 88 39 = some (.getfield 27, 3) := fet B88 (by decide +kernel) (Or.inr rfl)
theorem f88_42 : zft 88 42 = some (.getfield 131, 3) := fet B88 (by decide +kernel) (Or.inr rfl)
theorem f88_45 : zft 88 45 = some (.if_icmp .ge 34, 3) := fet B88 (by decide +kernel) (Or.inr rfl)
theorem f88_48 : zft 88 48 = some (.aload_n 0, 1) := fet B88 (by decide +kernel) (Or.inr rfl)
theorem f88_49 : zft 88 49 = some (.iconst 1, 1) := fet B88 (by decide +kernel) (Or.inr rfl)
theorem f88_50 : zft 88 50 = some (.iload_n 1, 1) := fet B88 (by decide +kernel) (Or.inr rfl)
theorem f88_51 : zft 88 51 = some (.ishl, 1) := fet B88 (by decide +kernel) (Or.inr rfl)
theorem f88_52 : zft 88 52 = some (.invokevirtual 365, 3) := fet B88 (by decide +kernel) (Or.inr rfl)
theorem f88_55 : zft 88 55 = some (.ifCond .eq 18, 3) := fet B88 (by decide +kernel) (Or.inr rfl)
theorem f88_58 : zft 88 58 = some (.aload_n 0, 1) := fet B88 (by decide +kernel) (Or.inr rfl)
theorem f88_59 : zft 88 59 = some (.getfield 62, 3) := fet B88 (by decide +kernel) (Or.inr rfl)
theorem f88_62 : zft 88 62 = some (.iconst 0, 1) := fet B88 (by decide +kernel) (Or.inr rfl)
theorem f88_63 : zft 88 63 = some (.iconst 1, 1) := fet B88 (by decide +kernel) (Or.inr rfl)
theorem f88_64 : zft 88 64 = some (.iastore, 1) := fet B88 (by decide +kernel) (Or.inr rfl)
theorem f88_65 : zft 88 65 = some (.aload_n 0, 1) := fet B88 (by decide +kernel) (Or.inr rfl)
theorem f88_66 : zft 88 66 = some (.getfield 62, 3) := fet B88 (by decide +kernel) (Or.inr rfl)
theorem f88_69 : zft 88 69 = some (.iconst 1, 1) := fet B88 (by decide +kernel) (Or.inr rfl)
theorem f88_70 : zft 88 70 = some (.iload_n 1, 1) := fet B88 (by decide +kernel) (Or.inr rfl)
theorem f88_71 : zft 88 71 = some (.iastore, 1) := fet B88 (by decide +kernel) (Or.inr rfl)
theorem f88_72 : zft 88 72 = some (.return_, 1) := fet B88 (by decide +kernel) (Or.inr rfl)
theorem f88_73 : zft 88 73 = some (.iinc 1 1, 3) := fet B88 (by decide +kernel) (Or.inr rfl)
theorem f88_76 : zft 88 76 = some (.goto (-39), 3) := fet B88 (by decide +kernel) (Or.inr rfl)
theorem f88_79 : zft 88 79 = some (.iconst 0, 1) := fet B88 (by decide +kernel) (Or.inr rfl)
theorem f88_80 : zft 88 80 = some (.istore_n 1, 1) := fet B88 (by decide +kernel) (Or.inr rfl)
theorem f88_81 : zft 88 81 = some (.iload_n 1, 1) := fet B88 (by decide +kernel) (Or.inr rfl)
theorem f88_82 : zft 88 82 = some (.aload_n 0, 1) := fet B88 (by decide +kernel) (Or.inr rfl)
theorem f88_83 : zft 88 83 = some (.getfield 27, 3) := fet B88 (by decide +kernel) (Or.inr rfl)
theorem f88_86 : zft 88 86 = some (.getfield 131, 3) := fet B88 (by decide +kernel) (Or.inr rfl)
theorem f88_89 : zft 88 89 = some (.if_icmp .ge 66, 3) := fet B88 (by decide +kernel) (Or.inr rfl)
theorem f88_92 : zft 88 92 = some (.iload_n 1, 1) := fet B88 (by decide +kernel) (Or.inr rfl)
theorem f88_93 : zft 88 93 = some (.iconst 1, 1) := fet B88 (by decide +kernel) (Or.inr rfl)
theorem f88_94 : zft 88 94 = some (.iadd, 1) := fet B88 (by decide +kernel) (Or.inr rfl)
theorem f88_95 : zft 88 95 = some (.istore_n 2, 1) := fet B88 (by decide +kernel) (Or.inr rfl)
theorem f88_96 : zft 88 96 = some (.iload_n 2, 1) := fet B88 (by decide +kernel) (Or.inr rfl)
theorem f88_97 : zft 88 97 = some (.aload_n 0, 1) := fet B88 (by decide +kernel) (Or.inr rfl)
theorem f88_98 : zft 88 98 = some (.getfield 27, 3) := fet B88 (by decide +kernel) (Or.inr rfl)
theorem f88_101 : zft 88 101 = some (.getfield 131, 3) := fet B88 (by decide +kernel) (Or.inr rfl)
theorem f88_104 : zft 88 104 = some (.if_icmp .ge 45, 3) := fet B88 (by decide +kernel) (Or.inr rfl)
theorem f88_107 : zft 88 107 = some (.aload_n 0, 1) := fet B88 (by decide +kernel) (Or.inr rfl)
theorem f88_108 : zft 88 108 = some (.iconst 1, 1) := fet B88 (by decide +kernel) (Or.inr rfl)
theorem f88_109 : zft 88 109 = some (.iload_n 1, 1) := fet B88 (by decide +kernel) (Or.inr rfl)
theorem f88_110 : zft 88 110 = some (.ishl, 1) := fet B88 (by decide +kernel) (Or.inr rfl)
theorem f88_111 : zft 88 111 = some (.iconst 1, 1) := fet B88 (by decide +kernel) (Or.inr rfl)
theorem f88_112 : zft 88 112 = some (.iload_n 2, 1) := fet B88 (by decide +kernel) (Or.inr rfl)
theorem f88_113 : zft 88 113 = some (.ishl, 1) := fet B88 (by decide +kernel) (Or.inr rfl)
theorem f88_114 : zft 88 114 = some (.ior, 1) := fet B88 (by decide +kernel) (Or.inr rfl)
theorem f88_115 : zft 88 115 = some (.invokevirtual 365, 3) := fet B88 (by decide +kernel) (Or.inr rfl)
theorem f88_118 : zft 88 118 = some (.ifCond .eq 25, 3) := fet B88 (by decide +kernel) (Or.inr rfl)
theorem f88_121 : zft 88 121 = some (.aload_n 0, 1) := fet B88 (by decide +kernel) (Or.inr rfl)
theorem f88_122 : zft 88 122 = some (.getfield 62, 3) := fet B88 (by decide +kernel) (Or.inr rfl)
theorem f88_125 : zft 88 125 = some (.iconst 0, 1) := fet B88 (by decide +kernel) (Or.inr rfl)
theorem f88_126 : zft 88 126 = some (.iconst 2, 1) := fet B88 (by decide +kernel) (Or.inr rfl)
theorem f88_127 : zft 88 127 = some (.iastore, 1) := fet B88 (by decide +kernel) (Or.inr rfl)
theorem f88_128 : zft 88 128 = some (.aload_n 0, 1) := fet B88 (by decide +kernel) (Or.inr rfl)
theorem f88_129 : zft 88 129 = some (.getfield 62, 3) := fet B88 (by decide +kernel) (Or.inr rfl)
theorem f88_132 : zft 88 132 = some (.iconst 1, 1) := fet B88 (by decide +kernel) (Or.inr rfl)
theorem f88_133 : zft 88 133 = some (.iload_n 1, 1) := fet B88 (by decide +kernel) (Or.inr rfl)
theorem f88_134 : zft 88 134 = some (.iastore, 1) := fet B88 (by decide +kernel) (Or.inr rfl)
theorem f88_135 : zft 88 135 = some (.aload_n 0, 1) := fet B88 (by decide +kernel) (Or.inr rfl)
theorem f88_136 : zft 88 136 = some (.getfield 62, 3) := fet B88 (by decide +kernel) (Or.inr rfl)
theorem f88_139 : zft 88 139 = some (.iconst 2, 1) := fet B88 (by decide +kernel) (Or.inr rfl)
theorem f88_140 : zft 88 140 = some (.iload_n 2, 1) := fet B88 (by decide +kernel) (Or.inr rfl)
theorem f88_141 : zft 88 141 = some (.iastore, 1) := fet B88 (by decide +kernel) (Or.inr rfl)
theorem f88_142 : zft 88 142 = some (.return_, 1) := fet B88 (by decide +kernel) (Or.inr rfl)
theorem f88_143 : zft 88 143 = some (.iinc 2 1, 3) := fet B88 (by decide +kernel) (Or.inr rfl)
theorem f88_146 : zft 88 146 = some (.goto (-50), 3) := fet B88 (by decide +kernel) (Or.inr rfl)
theorem f88_149 : zft 88 149 = some (.iinc 1 1, 3) := fet B88 (by decide +kernel) (Or.inr rfl)
theorem f88_152 : zft 88 152 = some (.goto (-71), 3) := fet B88 (by decide +kernel) (Or.inr rfl)
theorem f88_155 : zft 88 155 = some (.return_, 1) := fet B88 (by decide +kernel) (Or.inr rfl)
theorem x88_0 : Rn S 88 0 [.ref q, v1, v2] st I J Q = Rn S 88 1 [.ref q, v1, v2] (.ref q :: st) I J Q := rL f88_0 rfl rfl
theorem x88_1_0 : Rn (zG xl) 88 1 [v0, v1, v2] (.ref 0 :: st) I J Q = Rn (zG xl) 88 4 [v0, v1, v2] (.ref 62 :: st) I J Q := (rGf f88_1 rfl).trans (tr_and rfl)
theorem x88_4 : Rn S 88 4 [v0, v1, v2] st I J Q = Rn S 88 5 [v0, v1, v2] (.int (-1) :: st) I J Q := rS f88_4 rfl
theorem x88_5 : Rn S 88 5 [v0, v1, v2] (.int a1 :: .ref q0 :: st) I J Q = (zcs st ≤ 8 ∧ Rn S 198 0 [.ref q0, .int a1, .null, .null] [] I J (fun v I' J' => Rn S 88 8 [v0, v1, v2] (v.toList ++ st) I' J' Q)) := rCS (As := [.ref q0, .int a1]) f88_5 rfl rfl rfl rfl (Nat.le_of_ble_eq_true rfl)
theorem x88_8 : Rn S 88 8 [.ref q, v1, v2] st I J Q = Rn S 88 9 [.ref q, v1, v2] (.ref q :: st) I J Q := rL f88_8 rfl rfl
theorem x88_9_0 : Rn (zG xl) 88 9 [v0, v1, v2] (.ref 0 :: st) I J Q = Rn (zG xl) 88 12 [v0, v1, v2] (.ref 28 :: st) I J Q := (rGf f88_9 rfl).trans (tr_and rfl)
theorem x88_12 : Rn S 88 12 [.ref q, v1, v2] st I J Q = Rn S 88 13 [.ref q, v1, v2] (.ref q :: st) I J Q := rL f88_12 rfl rfl
theorem x88_13_0 : Rn (zG xl) 88 13 [v0, v1, v2] (.ref 0 :: st) I J Q = Rn (zG xl) 88 16 [v0, v1, v2] (.ref 8 :: st) I J Q := (rGf f88_13 rfl).trans (tr_and rfl)
theorem x88_16 : Rn S 88 16 [v0, v1, v2] (.ref q0 :: .ref q :: st) I J Q = ((zcls S q = 1 ∧ zcs st ≤ 8) ∧ Rn S 14 0 [.ref q, .ref q0] [] I J (fun v I' J' => Rn S 88 19 [v0, v1, v2] (v.toList ++ st) I' J' Q)) := rCV (As := [.ref q0]) f88_16 rfl rfl rfl rfl (Nat.le_of_ble_eq_true rfl)
theorem x88_19 : Rn S 88 19 [.ref q, v1, v2] st I J Q = Rn S 88 20 [.ref q, v1, v2] (.ref q :: st) I J Q := rL f88_19 rfl rfl
theorem x88_20 : Rn S 88 20 [v0, v1, v2] st I J Q = Rn S 88 21 [v0, v1, v2] (.int 0 :: st) I J Q := rS f88_20 rfl
theorem x88_21 : Rn S 88 21 [v0, v1, v2] (.int a0 :: .ref q :: st) I J Q = ((zcls S q = 5 ∧ zcs st ≤ 8) ∧ Rn S 89 0 [.ref q, .int a0] [] I J (fun v I' J' => Rn S 88 24 [v0, v1, v2] (v.toList ++ st) I' J' Q)) := rCV (As := [.int a0]) f88_21 rfl rfl rfl rfl (Nat.le_of_ble_eq_true rfl)
theorem x88_24 : Rn S 88 24 [v0, v1, v2] (.int a :: st) I J Q = if a = 0 then Rn S 88 35 [v0, v1, v2] st I J Q else Rn S 88 27 [v0, v1, v2] st I J Q := rIeq f88_24 rfl rfl
theorem x88_27 : Rn S 88 27 [.ref q, v1, v2] st I J Q = Rn S 88 28 [.ref q, v1, v2] (.ref q :: st) I J Q := rL f88_27 rfl rfl
theorem x88_28_0 : Rn (zG xl) 88 28 [v0, v1, v2] (.ref 0 :: st) I J Q = Rn (zG xl) 88 31 [v0, v1, v2] (.ref 62 :: st) I J Q := (rGf f88_28 rfl).trans (tr_and rfl)
theorem x88_31 : Rn S 88 31 [v0, v1, v2] st I J Q = Rn S 88 32 [v0, v1, v2] (.int 0 :: st) I J Q := rS f88_31 rfl
theorem x88_32 : Rn S 88 32 [v0, v1, v2] st I J Q = Rn S 88 33 [v0, v1, v2] (.int 0 :: st) I J Q := rS f88_32 rfl
theorem x88_33 : Rn S 88 33 [v0, v1, v2] (.int b :: .int a :: .ref q :: st) I J Q = (zas S q a ∧ Rn S 88 34 [v0, v1, v2] st (zr I q (upd (I q) a.toNatClampNeg b)) J Q) := rIas f88_33
theorem x88_34 : Rn S 88 34 [v0, v1, v2] [] I J Q = Q none I J := rR f88_34 rfl rfl rfl rfl rfl
theorem x88_35 : Rn S 88 35 [v0, v1, v2] st I J Q = Rn S 88 36 [v0, v1, v2] (.int 0 :: st) I J Q := rS f88_35 rfl
theorem x88_36 : Rn S 88 36 [v0, v1, v2] (.int a :: st) I J Q = Rn S 88 37 [zkl v0, .int a, v2] st I J Q := rL f88_36 rfl rfl
theorem h88_37 : Rn S 88 37 [v0, .int a, v2] st I J Q = Rn S 88 38 [v0, .int a, v2] (.int a :: st) I J Q := rL f88_37 rfl rfl
theorem x88_38 : Rn S 88 38 [.ref q, v1, v2] st I J Q = Rn S 88 39 [.ref q, v1, v2] (.ref q :: st) I J Q := rL f88_38 rfl rfl
theorem x88_39_0 : Rn (zG xl) 88 39 [v0, v1, v2] (.ref 0 :: st) I J Q = Rn (zG xl) 88 42 [v0, v1, v2] (.ref 8 :: st) I J Q := (rGf f88_39 rfl).trans (tr_and rfl)
theorem x88_42_8 : Rn (zG xl) 88 42 [v0, v1, v2] (.ref 8 :: st) I J Q = Rn (zG xl) 88 45 [v0, v1, v2] (.int (I 8 9) :: st) I J Q := (rGf f88_42 rfl).trans (tr_and rfl)
theorem x88_42_28 : Rn (zG xl) 88 42 [v0, v1, v2] (.ref 28 :: st) I J Q = Rn (zG xl) 88 45 [v0, v1, v2] (.int (I 28 9) :: st) I J Q := (rGf f88_42 rfl).trans (tr_and rfl)
theorem x88_45 : Rn S 88 45 [v0, v1, v2] (.int b :: .int a :: st) I J Q = if a < b then Rn S 88 48 [v0, v1, v2] st I J Q else Rn S 88 79 [v0, v1, v2] st I J Q := rCge f88_45 rfl rfl
theorem x88_48 : Rn S 88 48 [.ref q, v1, v2] st I J Q = Rn S 88 49 [.ref q, v1, v2] (.ref q :: st) I J Q := rL f88_48 rfl rfl
theorem x88_49 : Rn S 88 49 [v0, v1, v2] st I J Q = Rn S 88 50 [v0, v1, v2] (.int 1 :: st) I J Q := rS f88_49 rfl
theorem x88_50 : Rn S 88 50 [v0, .int a, v2] st I J Q = Rn S 88 51 [v0, .int a, v2] (.int a :: st) I J Q := rL f88_50 rfl rfl
theorem x88_51 : Rn S 88 51 [v0, v1, v2] (.int b :: .int a :: st) I J Q = Rn S 88 52 [v0, v1, v2] (.int (a <<< (b &&& 31)) :: st) I J Q := rS f88_51 rfl
theorem x88_52 : Rn S 88 52 [v0, v1, v2] (.int a0 :: .ref q :: st) I J Q = ((zcls S q = 5 ∧ zcs st ≤ 8) ∧ Rn S 89 0 [.ref q, .int a0] [] I J (fun v I' J' => Rn S 88 55 [v0, v1, v2] (v.toList ++ st) I' J' Q)) := rCV (As := [.int a0]) f88_52 rfl rfl rfl rfl (Nat.le_of_ble_eq_true rfl)
theorem x88_55 : Rn S 88 55 [v0, v1, v2] (.int a :: st) I J Q = if a = 0 then Rn S 88 73 [v0, v1, v2] st I J Q else Rn S 88 58 [v0, v1, v2] st I J Q := rIeq f88_55 rfl rfl
theorem x88_58 : Rn S 88 58 [.ref q, v1, v2] st I J Q = Rn S 88 59 [.ref q, v1, v2] (.ref q :: st) I J Q := rL f88_58 rfl rfl
theorem x88_59_0 : Rn (zG xl) 88 59 [v0, v1, v2] (.ref 0 :: st) I J Q = Rn (zG xl) 88 62 [v0, v1, v2] (.ref 62 :: st) I J Q := (rGf f88_59 rfl).trans (tr_and rfl)
theorem x88_62 : Rn S 88 62 [v0, v1, v2] st I J Q = Rn S 88 63 [v0, v1, v2] (.int 0 :: st) I J Q := rS f88_62 rfl
theorem x88_63 : Rn S 88 63 [v0, v1, v2] st I J Q = Rn S 88 64 [v0, v1, v2] (.int 1 :: st) I J Q := rS f88_63 rfl
theorem x88_64 : Rn S 88 64 [v0, v1, v2] (.int b :: .int a :: .ref q :: st) I J Q = (zas S q a ∧ Rn S 88 65 [v0, v1, v2] st (zr I q (upd (I q) a.toNatClampNeg b)) J Q) := rIas f88_64
theorem x88_65 : Rn S 88 65 [.ref q, v1, v2] st I J Q = Rn S 88 66 [.ref q, v1, v2] (.ref q :: st) I J Q := rL f88_65 rfl rfl
theorem x88_66_0 : Rn (zG xl) 88 66 [v0, v1, v2] (.ref 0 :: st) I J Q = Rn (zG xl) 88 69 [v0, v1, v2] (.ref 62 :: st) I J Q := (rGf f88_66 rfl).trans (tr_and rfl)
theorem x88_69 : Rn S 88 69 [v0, v1, v2] st I J Q = Rn S 88 70 [v0, v1, v2] (.int 1 :: st) I J Q := rS f88_69 rfl
theorem x88_70 : Rn S 88 70 [v0, .int a, v2] st I J Q = Rn S 88 71 [v0, .int a, v2] (.int a :: st) I J Q := rL f88_70 rfl rfl
theorem x88_71 : Rn S 88 71 [v0, v1, v2] (.int b :: .int a :: .ref q :: st) I J Q = (zas S q a ∧ Rn S 88 72 [v0, v1, v2] st (zr I q (upd (I q) a.toNatClampNeg b)) J Q) := rIas f88_71
theorem x88_72 : Rn S 88 72 [v0, v1, v2] [] I J Q = Q none I J := rR f88_72 rfl rfl rfl rfl rfl
theorem x88_73 : Rn S 88 73 [v0, .int a, v2] st I J Q = Rn S 88 76 [zkl v0, .int (a + 1), v2] st I J Q := rL f88_73 rfl rfl
theorem x88_76 : Rn S 88 76 [v0, v1, v2] st I J Q = Rn S 88 37 [v0, v1, v2] st I J Q := rB f88_76 rfl rfl rfl
theorem x88_79 : Rn S 88 79 [v0, v1, v2] st I J Q = Rn S 88 80 [v0, v1, v2] (.int 0 :: st) I J Q := rS f88_79 rfl
theorem x88_80 : Rn S 88 80 [v0, v1, v2] (.int a :: st) I J Q = Rn S 88 81 [zkl v0, .int a, v2] st I J Q := rL f88_80 rfl rfl
theorem h88_81 : Rn S 88 81 [v0, .int a, v2] st I J Q = Rn S 88 82 [v0, .int a, v2] (.int a :: st) I J Q := rL f88_81 rfl rfl
theorem x88_82 : Rn S 88 82 [.ref q, v1, v2] st I J Q = Rn S 88 83 [.ref q, v1, v2] (.ref q :: st) I J Q := rL f88_82 rfl rfl
theorem x88_83_0 : Rn (zG xl) 88 83 [v0, v1, v2] (.ref 0 :: st) I J Q = Rn (zG xl) 88 86 [v0, v1, v2] (.ref 8 :: st) I J Q := (rGf f88_83 rfl).trans (tr_and rfl)
theorem x88_86_8 : Rn (zG xl) 88 86 [v0, v1, v2] (.ref 8 :: st) I J Q = Rn (zG xl) 88 89 [v0, v1, v2] (.int (I 8 9) :: st) I J Q := (rGf f88_86 rfl).trans (tr_and rfl)
theorem x88_86_28 : Rn (zG xl) 88 86 [v0, v1, v2] (.ref 28 :: st) I J Q = Rn (zG xl) 88 89 [v0, v1, v2] (.int (I 28 9) :: st) I J Q := (rGf f88_86 rfl).trans (tr_and rfl)
theorem x88_89 : Rn S 88 89 [v0, v1, v2] (.int b :: .int a :: st) I J Q = if a < b then Rn S 88 92 [v0, v1, v2] st I J Q else Rn S 88 155 [v0, v1, v2] st I J Q := rCge f88_89 rfl rfl
theorem x88_92 : Rn S 88 92 [v0, .int a, v2] st I J Q = Rn S 88 93 [v0, .int a, v2] (.int a :: st) I J Q := rL f88_92 rfl rfl
theorem x88_93 : Rn S 88 93 [v0, v1, v2] st I J Q = Rn S 88 94 [v0, v1, v2] (.int 1 :: st) I J Q := rS f88_93 rfl
theorem x88_94 : Rn S 88 94 [v0, v1, v2] (.int b :: .int a :: st) I J Q = Rn S 88 95 [v0, v1, v2] (.int (a + b) :: st) I J Q := rS f88_94 rfl
theorem x88_95 : Rn S 88 95 [v0, v1, v2] (.int a :: st) I J Q = Rn S 88 96 [v0, zkl v1, .int a] st I J Q := rL f88_95 rfl rfl
theorem h88_96 : Rn S 88 96 [v0, v1, .int a] st I J Q = Rn S 88 97 [v0, v1, .int a] (.int a :: st) I J Q := rL f88_96 rfl rfl
theorem x88_97 : Rn S 88 97 [.ref q, v1, v2] st I J Q = Rn S 88 98 [.ref q, v1, v2] (.ref q :: st) I J Q := rL f88_97 rfl rfl
theorem x88_98_0 : Rn (zG xl) 88 98 [v0, v1, v2] (.ref 0 :: st) I J Q = Rn (zG xl) 88 101 [v0, v1, v2] (.ref 8 :: st) I J Q := (rGf f88_98 rfl).trans (tr_and rfl)
theorem x88_101_8 : Rn (zG xl) 88 101 [v0, v1, v2] (.ref 8 :: st) I J Q = Rn (zG xl) 88 104 [v0, v1, v2] (.int (I 8 9) :: st) I J Q := (rGf f88_101 rfl).trans (tr_and rfl)
theorem x88_101_28 : Rn (zG xl) 88 101 [v0, v1, v2] (.ref 28 :: st) I J Q = Rn (zG xl) 88 104 [v0, v1, v2] (.int (I 28 9) :: st) I J Q := (rGf f88_101 rfl).trans (tr_and rfl)
theorem x88_104 : Rn S 88 104 [v0, v1, v2] (.int b :: .int a :: st) I J Q = if a < b then Rn S 88 107 [v0, v1, v2] st I J Q else Rn S 88 149 [v0, v1, v2] st I J Q := rCge f88_104 rfl rfl
theorem x88_107 : Rn S 88 107 [.ref q, v1, v2] st I J Q = Rn S 88 108 [.ref q, v1, v2] (.ref q :: st) I J Q := rL f88_107 rfl rfl
theorem x88_108 : Rn S 88 108 [v0, v1, v2] st I J Q = Rn S 88 109 [v0, v1, v2] (.int 1 :: st) I J Q := rS f88_108 rfl
theorem x88_109 : Rn S 88 109 [v0, .int a, v2] st I J Q = Rn S 88 110 [v0, .int a, v2] (.int a :: st) I J Q := rL f88_109 rfl rfl
theorem x88_110 : Rn S 88 110 [v0, v1, v2] (.int b :: .int a :: st) I J Q = Rn S 88 111 [v0, v1, v2] (.int (a <<< (b &&& 31)) :: st) I J Q := rS f88_110 rfl
theorem x88_111 : Rn S 88 111 [v0, v1, v2] st I J Q = Rn S 88 112 [v0, v1, v2] (.int 1 :: st) I J Q := rS f88_111 rfl
theorem x88_112 : Rn S 88 112 [v0, v1, .int a] st I J Q = Rn S 88 113 [v0, v1, .int a] (.int a :: st) I J Q := rL f88_112 rfl rfl
theorem x88_113 : Rn S 88 113 [v0, v1, v2] (.int b :: .int a :: st) I J Q = Rn S 88 114 [v0, v1, v2] (.int (a <<< (b &&& 31)) :: st) I J Q := rS f88_113 rfl
theorem x88_114 : Rn S 88 114 [v0, v1, v2] (.int b :: .int a :: st) I J Q = Rn S 88 115 [v0, v1, v2] (.int (a ||| b) :: st) I J Q := rS f88_114 rfl
theorem x88_115 : Rn S 88 115 [v0, v1, v2] (.int a0 :: .ref q :: st) I J Q = ((zcls S q = 5 ∧ zcs st ≤ 8) ∧ Rn S 89 0 [.ref q, .int a0] [] I J (fun v I' J' => Rn S 88 118 [v0, v1, v2] (v.toList ++ st) I' J' Q)) := rCV (As := [.int a0]) f88_115 rfl rfl rfl rfl (Nat.le_of_ble_eq_true rfl)
theorem x88_118 : Rn S 88 118 [v0, v1, v2] (.int a :: st) I J Q = if a = 0 then Rn S 88 143 [v0, v1, v2] st I J Q else Rn S 88 121 [v0, v1, v2] st I J Q := rIeq f88_118 rfl rfl
theorem x88_121 : Rn S 88 121 [.ref q, v1, v2] st I J Q = Rn S 88 122 [.ref q, v1, v2] (.ref q :: st) I J Q := rL f88_121 rfl rfl
theorem x88_122_0 : Rn (zG xl) 88 122 [v0, v1, v2] (.ref 0 :: st) I J Q = Rn (zG xl) 88 125 [v0, v1, v2] (.ref 62 :: st) I J Q := (rGf f88_122 rfl).trans (tr_and rfl)
theorem x88_125 : Rn S 88 125 [v0, v1, v2] st I J Q = Rn S 88 126 [v0, v1, v2] (.int 0 :: st) I J Q := rS f88_125 rfl
theorem x88_126 : Rn S 88 126 [v0, v1, v2] st I J Q = Rn S 88 127 [v0, v1, v2] (.int 2 :: st) I J Q := rS f88_126 rfl
theorem x88_127 : Rn S 88 127 [v0, v1, v2] (.int b :: .int a :: .ref q :: st) I J Q = (zas S q a ∧ Rn S 88 128 [v0, v1, v2] st (zr I q (upd (I q) a.toNatClampNeg b)) J Q) := rIas f88_127
theorem x88_128 : Rn S 88 128 [.ref q, v1, v2] st I J Q = Rn S 88 129 [.ref q, v1, v2] (.ref q :: st) I J Q := rL f88_128 rfl rfl
theorem x88_129_0 : Rn (zG xl) 88 129 [v0, v1, v2] (.ref 0 :: st) I J Q = Rn (zG xl) 88 132 [v0, v1, v2] (.ref 62 :: st) I J Q := (rGf f88_129 rfl).trans (tr_and rfl)
theorem x88_132 : Rn S 88 132 [v0, v1, v2] st I J Q = Rn S 88 133 [v0, v1, v2] (.int 1 :: st) I J Q := rS f88_132 rfl
theorem x88_133 : Rn S 88 133 [v0, .int a, v2] st I J Q = Rn S 88 134 [v0, .int a, v2] (.int a :: st) I J Q := rL f88_133 rfl rfl
theorem x88_134 : Rn S 88 134 [v0, v1, v2] (.int b :: .int a :: .ref q :: st) I J Q = (zas S q a ∧ Rn S 88 135 [v0, v1, v2] st (zr I q (upd (I q) a.toNatClampNeg b)) J Q) := rIas f88_134
theorem x88_135 : Rn S 88 135 [.ref q, v1, v2] st I J Q = Rn S 88 136 [.ref q, v1, v2] (.ref q :: st) I J Q := rL f88_135 rfl rfl
theorem x88_136_0 : Rn (zG xl) 88 136 [v0, v1, v2] (.ref 0 :: st) I J Q = Rn (zG xl) 88 139 [v0, v1, v2] (.ref 62 :: st) I J Q := (rGf f88_136 rfl).trans (tr_and rfl)
theorem x88_139 : Rn S 88 139 [v0, v1, v2] st I J Q = Rn S 88 140 [v0, v1, v2] (.int 2 :: st) I J Q := rS f88_139 rfl
theorem x88_140 : Rn S 88 140 [v0, v1, .int a] st I J Q = Rn S 88 141 [v0, v1, .int a] (.int a :: st) I J Q := rL f88_140 rfl rfl
theorem x88_141 : Rn S 88 141 [v0, v1, v2] (.int b :: .int a :: .ref q :: st) I J Q = (zas S q a ∧ Rn S 88 142 [v0, v1, v2] st (zr I q (upd (I q) a.toNatClampNeg b)) J Q) := rIas f88_141
theorem x88_142 : Rn S 88 142 [v0, v1, v2] [] I J Q = Q none I J := rR f88_142 rfl rfl rfl rfl rfl
theorem x88_143 : Rn S 88 143 [v0, v1, .int a] st I J Q = Rn S 88 146 [v0, zkl v1, .int (a + 1)] st I J Q := rL f88_143 rfl rfl
theorem x88_146 : Rn S 88 146 [v0, v1, v2] st I J Q = Rn S 88 96 [v0, v1, v2] st I J Q := rB f88_146 rfl rfl rfl
theorem x88_149 : Rn S 88 149 [v0, .int a, v2] st I J Q = Rn S 88 152 [zkl v0, .int (a + 1), v2] st I J Q := rL f88_149 rfl rfl
theorem x88_152 : Rn S 88 152 [v0, v1, v2] st I J Q = Rn S 88 81 [v0, v1, v2] st I J Q := rB f88_152 rfl rfl rfl
theorem x88_155 : Rn S 88 155 [v0, v1, v2] [] I J Q = Q none I J := rR f88_155 rfl rfl rfl rfl rfl
/-! X5.hushHelps: 89 -/
theorem B89 : zB 89 = cX5_hushHelps := rfl
theorem f89_0 : zft 89 0 = some (.aload_n 0, 1) := fet B89 (by decide +kernel) (Or.inr rfl)
theorem f89_1 : zft 89 1 = some (.getfield 38, 3) := fet B89 (by decide +kernel) (Or.inr rfl)
theorem f89_4 : zft 89 4 = some (.iload_n 1, 1) := fet B89 (by decide +kernel) (Or.inr rfl)
theorem f89_5 : zft 89 5 = some (.putfield 212, 3) := fet B89 (by decide +kernel) (Or.inr rfl)
theorem f89_8 : zft 89 8 = some (.aload_n 0, 1) := fet B89 (by decide +kernel) (Or.inr rfl)
theorem f89_9 : zft 89 9 = some (.getfield 41, 3) := fet B89 (by decide +kernel) (Or.inr rfl)
theorem f89_12 : zft 89 12 = some (.aload_n 0, 1) := fet B89 (by decide +kernel) (Or.inr rfl)
theorem f89_13 : zft 89 13 = some (.getfield 38, 3) := fet B89 (by decide +kernel) (Or.inr rfl)
theorem f89_16 : zft 89 16 = some (.invokevirtual 123, 3) := fet B89 (by decide +kernel) (Or.inr rfl)
theorem f89_19 : zft 89 19 = some (.aload_n 0, 1) := fet B89 (by decide +kernel) (Or.inr rfl)
theorem f89_20 : zft 89 20 = some (.getfield 41, 3) := fet B89 (by decide +kernel) (Or.inr rfl)
theorem f89_23 : zft 89 23 = some (.invokevirtual 191, 3) := fet B89 (by decide +kernel) (Or.inr rfl)
theorem f89_26 : zft 89 26 = some (.ifCond .ne 7, 3) := fet B89 (by decide +kernel) (Or.inr rfl)
theorem f89_29 : zft 89 29 = some (.iconst 1, 1) := fet B89 (by decide +kernel) (Or.inr rfl)
theorem f89_30 : zft 89 30 = some (.goto 4, 3) := fet B89 (by decide +kernel) (Or.inr rfl)
theorem f89_33 : zft 89 33 = some (.iconst 0, 1) := fet B89 (by decide +kernel) (Or.inr rfl)
theorem f89_34 : zft 89 34 = some (.ireturn, 1) := fet B89 (by decide +kernel) (Or.inr rfl)
theorem x89_0 : Rn S 89 0 [.ref q, v1] st I J Q = Rn S 89 1 [.ref q, v1] (.ref q :: st) I J Q := rL f89_0 rfl rfl
theorem x89_1_0 : Rn (zG xl) 89 1 [v0, v1] (.ref 0 :: st) I J Q = Rn (zG xl) 89 4 [v0, v1] (.ref 28 :: st) I J Q := (rGf f89_1 rfl).trans (tr_and rfl)
theorem x89_4 : Rn S 89 4 [v0, .int a] st I J Q = Rn S 89 5 [v0, .int a] (.int a :: st) I J Q := rL f89_4 rfl rfl
theorem x89_5_8 : Rn (zG xl) 89 5 [v0, v1] (.int a :: .ref 8 :: st) I J Q = Rn (zG xl) 89 8 [v0, v1] st (zr I 8 (upd (I 8) 13 a)) J Q := (rPf f89_5 rfl).trans (tr_pf rfl rfl rfl)
theorem x89_5_28 : Rn (zG xl) 89 5 [v0, v1] (.int a :: .ref 28 :: st) I J Q = Rn (zG xl) 89 8 [v0, v1] st (zr I 28 (upd (I 28) 13 a)) J Q := (rPf f89_5 rfl).trans (tr_pf rfl rfl rfl)
theorem x89_8 : Rn S 89 8 [.ref q, v1] st I J Q = Rn S 89 9 [.ref q, v1] (.ref q :: st) I J Q := rL f89_8 rfl rfl
theorem x89_9_0 : Rn (zG xl) 89 9 [v0, v1] (.ref 0 :: st) I J Q = Rn (zG xl) 89 12 [v0, v1] (.ref 38 :: st) I J Q := (rGf f89_9 rfl).trans (tr_and rfl)
theorem x89_12 : Rn S 89 12 [.ref q, v1] st I J Q = Rn S 89 13 [.ref q, v1] (.ref q :: st) I J Q := rL f89_12 rfl rfl
theorem x89_13_0 : Rn (zG xl) 89 13 [v0, v1] (.ref 0 :: st) I J Q = Rn (zG xl) 89 16 [v0, v1] (.ref 28 :: st) I J Q := (rGf f89_13 rfl).trans (tr_and rfl)
theorem x89_16 : Rn S 89 16 [v0, v1] (.ref q0 :: .ref q :: st) I J Q = ((zcls S q = 0 ∧ zcs st ≤ 8) ∧ Rn S 1 0 [.ref q, .ref q0, .null, .null] [] I J (fun v I' J' => Rn S 89 19 [v0, v1] (v.toList ++ st) I' J' Q)) := rCV (As := [.ref q0]) f89_16 rfl rfl rfl rfl (Nat.le_of_ble_eq_true rfl)
theorem x89_19 : Rn S 89 19 [.ref q, v1] st I J Q = Rn S 89 20 [.ref q, v1] (.ref q :: st) I J Q := rL f89_19 rfl rfl
theorem x89_20_0 : Rn (zG xl) 89 20 [v0, v1] (.ref 0 :: st) I J Q = Rn (zG xl) 89 23 [v0, v1] (.ref 38 :: st) I J Q := (rGf f89_20 rfl).trans (tr_and rfl)
theorem x89_23 : Rn S 89 23 [v0, v1] (.ref q :: st) I J Q = ((zcls S q = 0 ∧ zcs st ≤ 8) ∧ Rn S 10 0 [.ref q, .null, .null] [] I J (fun v I' J' => Rn S 89 26 [v0, v1] (v.toList ++ st) I' J' Q)) := rCV (As := []) f89_23 rfl rfl rfl rfl (Nat.le_of_ble_eq_true rfl)
theorem x89_26 : Rn S 89 26 [v0, v1] (.int a :: st) I J Q = if a = 0 then Rn S 89 29 [v0, v1] st I J Q else Rn S 89 33 [v0, v1] st I J Q := rIne f89_26 rfl rfl
theorem x89_29 : Rn S 89 29 [v0, v1] st I J Q = Rn S 89 30 [v0, v1] (.int 1 :: st) I J Q := rS f89_29 rfl
theorem x89_30 : Rn S 89 30 [v0, v1] st I J Q = Rn S 89 34 [v0, v1] st I J Q := rB f89_30 rfl rfl rfl
theorem x89_33 : Rn S 89 33 [v0, v1] st I J Q = Rn S 89 34 [v0, v1] (.int 0 :: st) I J Q := rS f89_33 rfl
theorem x89_34 : Rn S 89 34 [v0, v1] [.int a] I J Q = ((a = 0 ∨ a = 1) ∧ Q (some (.int a)) I J) := rRZ f89_34 (Or.inl rfl)
/-! X5.tryKeens: 90 -/
theorem B90 : zB 90 = cX5_tryKeens := rfl
theorem f90_0 : zft 90 0 = some (.aload_n 0, 1) := fet B90 (by decide +kernel) (Or.inr rfl)
theorem f90_1 : zft 90 1 = some (.getfield 38, 3) := fet B90 (by decide +kernel) (Or.inr rfl)
theorem f90_4 : zft 90 4 = some (.aload_n 0, 1) := fet B90 (by decide +kernel) (Or.inr rfl)
theorem f90_5 : zft 90 5 = some (.getfield 27, 3) := fet B90 (by decide +kernel) (Or.inr rfl)
theorem f90_8 : zft 90 8 = some (.invokevirtual 197, 3) := fet B90 (by decide +kernel) (Or.inr rfl)
theorem f90_11 : zft 90 11 = some (.iconst 0, 1) := fet B90 (by decide +kernel) (Or.inr rfl)
theorem f90_12 : zft 90 12 = some (.istore_n 2, 1) := fet B90 (by decide +kernel) (Or.inr rfl)
theorem f90_13 : zft 90 13 = some (.iconst 1, 1) := fet B90 (by decide +kernel) (Or.inr rfl)
theorem f90_14 : zft 90 14 = some (.istore_n 3, 1) := fet B90 (by decide +kernel) (Or.inr rfl)
theorem f90_15 : zft 90 15 = some (.iload_n 3, 1) := fet B90 (by decide +kernel) (Or.inr rfl)
theorem f90_16 : zft 90 16 = some (.bipush 9, 2) := fet B90 (by decide +kernel) (Or.inr rfl)
theorem f90_18 : zft 90 18 = some (.if_icmp .gt 87, 3) := fet B90 (by decide +kernel) (Or.inr rfl)
theorem f90_21 : zft 90 21 = some (.aload_n 0, 1) := fet B90 (by decide +kernel) (Or.inr rfl)
theorem f90_22 : zft 90 22 = some (.getfield 38, 3) := fet B90 (by decide +kernel) (Or.inr rfl)
theorem f90_25 : zft 90 25 = some (.getfield 108, 3) := fet B90 (by decide +kernel) (Or.inr rfl)
theorem f90_28 : zft 90 28 = some (.iload_n 1, 1) := fet B90 (by decide +kernel) (Or.inr rfl)
theorem f90_29 : zft 90 29 = some (.iload_n 3, 1) := fet B90 (by decide +kernel) (Or.inr rfl)
theorem f90_30 : zft 90 30 = some (.iastore, 1) := fet B90 (by decide +kernel) (Or.inr rfl)
theorem f90_31 : zft 90 31 = some (.aload_n 0, 1) := fet B90 (by decide +kernel) (Or.inr rfl)
theorem f90_32 : zft 90 32 = some (.getfield 41, 3) := fet B90 (by decide +kernel) (Or.inr rfl)
theorem f90_35 : zft 90 35 = some (.aload_n 0, 1) := fet B90 (by decide +kernel) (Or.inr rfl)
theorem f90_36 : zft 90 36 = some (.getfield 38, 3) := fet B90 (by decide +kernel) (Or.inr rfl)
theorem f90_39 : zft 90 39 = some (.invokevirtual 123, 3) := fet B90 (by decide +kernel) (Or.inr rfl)
theorem f90_42 : zft 90 42 = some (.aload_n 0, 1) := fet B90 (by decide +kernel) (Or.inr rfl)
theorem f90_43 : zft 90 43 = some (.getfield 47, 3) := fet B90 (by decide +kernel) (Or.inr rfl)
theorem f90_46 : zft 90 46 = some (.aload_n 0, 1) := fet B90 (by decide +kernel) (Or.inr rfl)
theorem f90_47 : zft 90 47 = some (.getfield 41, 3) := fet B90 (by decide +kernel) (Or.inr rfl)
theorem f90_50 : zft 90 50 = some (.invokevirtual 215, 3) := fet B90 (by decide +kernel) (Or.inr rfl)
theorem f90_53 : zft 90 53 = some (.ifCond .eq 9, 3) := fet B90 (by decide +kernel) (Or.inr rfl)
theorem f90_56 : zft 90 56 = some (.iload_n 2, 1) := fet B90 (by decide +kernel) (Or.inr rfl)
theorem f90_57 : zft 90 57 = some (.iconst 1, 1) := fet B90 (by decide +kernel) (Or.inr rfl)
theorem f90_58 : zft 90 58 = some (.iload_n 3, 1) := fet B90 (by decide +kernel) (Or.inr rfl)
theorem f90_59 : zft 90 59 = some (.ishl, 1) := fet B90 (by decide +kernel) (Or.inr rfl)
theorem f90_60 : zft 90 60 = some (.ior, 1) := fet B90 (by decide +kernel) (Or.inr rfl)
theorem f90_61 : zft 90 61 = some (.istore_n 2, 1) := fet B90 (by decide +kernel) (Or.inr rfl)
theorem f90_62 : zft 90 62 = some (.iconst 0, 1) := fet B90 (by decide +kernel) (Or.inr rfl)
theorem f90_63 : zft 90 63 = some (.istore 4, 2) := fet B90 (by decide +kernel) (Or.inr rfl)
theorem f90_65 : zft 90 65 = some (.iload 4, 2) := fet B90 (by decide +kernel) (Or.inr rfl)
theorem f90_67 : zft 90 67 = some (.bipush 24, 2) := fet B90 (by decide +kernel) (Or.inr rfl)
theorem f90_69 : zft 90 69 = some (.if_icmp .ge 30, 3) := fet B90 (by decide +kernel) (Or.inr rfl)
theorem f90_72 : zft 90 72 = some (.aload_n 0, 1) := fet B90 (by decide +kernel) (Or.inr rfl)
theorem f90_73 : zft 90 73 = some (.getfield 65, 3) := fet B90 (by decide +kernel) (Or.inr rfl)
theorem f90_76 : zft 90 76 = some (.iload_n 3, 1) := fet B90 (by decide +kernel) (Or.inr rfl)
theorem f90_77 : zft 90 77 = some (.bipush 24, 2) := fet B90 (by decide +kernel) (Or.inr rfl)
theorem f90_79 : zft 90 79 = some (.imul, 1) := fet B90 (by decide +kernel) (Or.inr rfl)
theorem f90_80 : zft 90 80 = some (.iload 4, 2) := fet B90 (by decide +kernel) (Or.inr rfl)
theorem f90_82 : zft 90 82 = some (.iadd, 1) := fet B90 (by decide +kernel) (Or.inr rfl)
theorem f90_83 : zft 90 83 = some (.aload_n 0, 1) := fet B90 (by decide +kernel) (Or.inr rfl)
theorem f90_84 : zft 90 84 = some (.getfield 41, 3) := fet B90 (by decide +kernel) (Or.inr rfl)
theorem f90_87 : zft 90 87 = some (.iload 4, 2) := fet B90 (by decide +kernel) (Or.inr rfl)
theorem f90_89 : zft 90 89 = some (.invokevirtual 176, 3) := fet B90 (by decide +kernel) (Or.inr rfl)
theorem f90_92 : zft 90 92 = some (.iastore, 1) := fet B90 (by decide +kernel) (Or.inr rfl)
theorem f90_93 : zft 90 93 = some (.iinc 4 1, 3) := fet B90 (by decide +kernel) (Or.inr rfl)
theorem f90_96 : zft 90 96 = some (.goto (-31), 3) := fet B90 (by decide +kernel) (Or.inr rfl)
theorem f90_99 : zft 90 99 = some (.iinc 3 1, 3) := fet B90 (by decide +kernel) (Or.inr rfl)
theorem f90_102 : zft 90 102 = some (.goto (-87), 3) := fet B90 (by decide +kernel) (Or.inr rfl)
theorem f90_105 : zft 90 105 = some (.iload_n 2, 1) := fet B90 (by decide +kernel) (Or.inr rfl)
theorem f90_106 : zft 90 106 = some (.ireturn, 1) := fet B90 (by decide +kernel) (Or.inr rfl)
theorem x90_0 : Rn S 90 0 [.ref q, v1, v2, v3, v4] st I J Q = Rn S 90 1 [.ref q, v1, v2, v3, v4] (.ref q :: st) I J Q := rL f90_0 rfl rfl
theorem x90_1_0 : Rn (zG xl) 90 1 [v0, v1, v2, v3, v4] (.ref 0 :: st) I J Q = Rn (zG xl) 90 4 [v0, v1, v2, v3, v4] (.ref 28 :: st) I J Q := (rGf f90_1 rfl).trans (tr_and rfl)
theorem x90_4 : Rn S 90 4 [.ref q, v1, v2, v3, v4] st I J Q = Rn S 90 5 [.ref q, v1, v2, v3, v4] (.ref q :: st) I J Q := rL f90_4 rfl rfl
theorem x90_5_0 : Rn (zG xl) 90 5 [v0, v1, v2, v3, v4] (.ref 0 :: st) I J Q = Rn (zG xl) 90 8 [v0, v1, v2, v3, v4] (.ref 8 :: st) I J Q := (rGf f90_5 rfl).trans (tr_and rfl)
theorem x90_8 : Rn S 90 8 [v0, v1, v2, v3, v4] (.ref q0 :: .ref q :: st) I J Q = ((zcls S q = 1 ∧ zcs st ≤ 8) ∧ Rn S 14 0 [.ref q, .ref q0] [] I J (fun v I' J' => Rn S 90 11 [v0, v1, v2, v3, v4] (v.toList ++ st) I' J' Q)) := rCV (As := [.ref q0]) f90_8 rfl rfl rfl rfl (Nat.le_of_ble_eq_true rfl)
theorem x90_11 : Rn S 90 11 [v0, v1, v2, v3, v4] st I J Q = Rn S 90 12 [v0, v1, v2, v3, v4] (.int 0 :: st) I J Q := rS f90_11 rfl
theorem x90_12 : Rn S 90 12 [v0, v1, v2, v3, v4] (.int a :: st) I J Q = Rn S 90 13 [v0, zkl v1, .int a, v3, v4] st I J Q := rL f90_12 rfl rfl
theorem x90_13 : Rn S 90 13 [v0, v1, v2, v3, v4] st I J Q = Rn S 90 14 [v0, v1, v2, v3, v4] (.int 1 :: st) I J Q := rS f90_13 rfl
theorem x90_14 : Rn S 90 14 [v0, v1, v2, v3, v4] (.int a :: st) I J Q = Rn S 90 15 [v0, v1, zkl v2, .int a, v4] st I J Q := rL f90_14 rfl rfl
theorem h90_15 : Rn S 90 15 [v0, v1, v2, .int a, v4] st I J Q = Rn S 90 16 [v0, v1, v2, .int a, v4] (.int a :: st) I J Q := rL f90_15 rfl rfl
theorem x90_16 : Rn S 90 16 [v0, v1, v2, v3, v4] st I J Q = Rn S 90 18 [v0, v1, v2, v3, v4] (.int 9 :: st) I J Q := rS f90_16 rfl
theorem x90_18 : Rn S 90 18 [v0, v1, v2, v3, v4] (.int b :: .int a :: st) I J Q = if b < a then Rn S 90 105 [v0, v1, v2, v3, v4] st I J Q else Rn S 90 21 [v0, v1, v2, v3, v4] st I J Q := rCgt f90_18 rfl rfl
theorem x90_21 : Rn S 90 21 [.ref q, v1, v2, v3, v4] st I J Q = Rn S 90 22 [.ref q, v1, v2, v3, v4] (.ref q :: st) I J Q := rL f90_21 rfl rfl
theorem x90_22_0 : Rn (zG xl) 90 22 [v0, v1, v2, v3, v4] (.ref 0 :: st) I J Q = Rn (zG xl) 90 25 [v0, v1, v2, v3, v4] (.ref 28 :: st) I J Q := (rGf f90_22 rfl).trans (tr_and rfl)
theorem x90_25_8 : Rn (zG xl) 90 25 [v0, v1, v2, v3, v4] (.ref 8 :: st) I J Q = Rn (zG xl) 90 28 [v0, v1, v2, v3, v4] (.ref 12 :: st) I J Q := (rGf f90_25 rfl).trans (tr_and rfl)
theorem x90_25_28 : Rn (zG xl) 90 25 [v0, v1, v2, v3, v4] (.ref 28 :: st) I J Q = Rn (zG xl) 90 28 [v0, v1, v2, v3, v4] (.ref 32 :: st) I J Q := (rGf f90_25 rfl).trans (tr_and rfl)
theorem x90_28 : Rn S 90 28 [v0, .int a, v2, v3, v4] st I J Q = Rn S 90 29 [v0, .int a, v2, v3, v4] (.int a :: st) I J Q := rL f90_28 rfl rfl
theorem x90_29 : Rn S 90 29 [v0, v1, v2, .int a, v4] st I J Q = Rn S 90 30 [v0, v1, v2, .int a, v4] (.int a :: st) I J Q := rL f90_29 rfl rfl
theorem x90_30 : Rn S 90 30 [v0, v1, v2, v3, v4] (.int b :: .int a :: .ref q :: st) I J Q = (zas S q a ∧ Rn S 90 31 [v0, v1, v2, v3, v4] st (zr I q (upd (I q) a.toNatClampNeg b)) J Q) := rIas f90_30
theorem x90_31 : Rn S 90 31 [.ref q, v1, v2, v3, v4] st I J Q = Rn S 90 32 [.ref q, v1, v2, v3, v4] (.ref q :: st) I J Q := rL f90_31 rfl rfl
theorem x90_32_0 : Rn (zG xl) 90 32 [v0, v1, v2, v3, v4] (.ref 0 :: st) I J Q = Rn (zG xl) 90 35 [v0, v1, v2, v3, v4] (.ref 38 :: st) I J Q := (rGf f90_32 rfl).trans (tr_and rfl)
theorem x90_35 : Rn S 90 35 [.ref q, v1, v2, v3, v4] st I J Q = Rn S 90 36 [.ref q, v1, v2, v3, v4] (.ref q :: st) I J Q := rL f90_35 rfl rfl
theorem x90_36_0 : Rn (zG xl) 90 36 [v0, v1, v2, v3, v4] (.ref 0 :: st) I J Q = Rn (zG xl) 90 39 [v0, v1, v2, v3, v4] (.ref 28 :: st) I J Q := (rGf f90_36 rfl).trans (tr_and rfl)
theorem x90_39 : Rn S 90 39 [v0, v1, v2, v3, v4] (.ref q0 :: .ref q :: st) I J Q = ((zcls S q = 0 ∧ zcs st ≤ 8) ∧ Rn S 1 0 [.ref q, .ref q0, .null, .null] [] I J (fun v I' J' => Rn S 90 42 [v0, v1, v2, v3, v4] (v.toList ++ st) I' J' Q)) := rCV (As := [.ref q0]) f90_39 rfl rfl rfl rfl (Nat.le_of_ble_eq_true rfl)
theorem x90_42 : Rn S 90 42 [.ref q, v1, v2, v3, v4] st I J Q = Rn S 90 43 [.ref q, v1, v2, v3, v4] (.ref q :: st) I J Q := rL f90_42 rfl rfl
theorem x90_43_0 : Rn (zG xl) 90 43 [v0, v1, v2, v3, v4] (.ref 0 :: st) I J Q = Rn (zG xl) 90 46 [v0, v1, v2, v3, v4] (.ref 48 :: st) I J Q := (rGf f90_43 rfl).trans (tr_and rfl)
theorem x90_46 : Rn S 90 46 [.ref q, v1, v2, v3, v4] st I J Q = Rn S 90 47 [.ref q, v1, v2, v3, v4] (.ref q :: st) I J Q := rL f90_46 rfl rfl
theorem x90_47_0 : Rn (zG xl) 90 47 [v0, v1, v2, v3, v4] (.ref 0 :: st) I J Q = Rn (zG xl) 90 50 [v0, v1, v2, v3, v4] (.ref 38 :: st) I J Q := (rGf f90_47 rfl).trans (tr_and rfl)
theorem x90_50 : Rn S 90 50 [v0, v1, v2, v3, v4] (.ref q0 :: .ref q :: st) I J Q = ((zcls S q = 3 ∧ zcs st ≤ 8) ∧ Rn S 29 0 [.ref q, .ref q0, .null, .null] [] I J (fun v I' J' => Rn S 90 53 [v0, v1, v2, v3, v4] (v.toList ++ st) I' J' Q)) := rCV (As := [.ref q0]) f90_50 rfl rfl rfl rfl (Nat.le_of_ble_eq_true rfl)
theorem x90_53 : Rn S 90 53 [v0, v1, v2, v3, v4] (.int a :: st) I J Q = if a = 0 then Rn S 90 62 [v0, v1, v2, v3, v4] st I J Q else Rn S 90 56 [v0, v1, v2, v3, v4] st I J Q := rIeq f90_53 rfl rfl
theorem x90_56 : Rn S 90 56 [v0, v1, .int a, v3, v4] st I J Q = Rn S 90 57 [v0, v1, .int a, v3, v4] (.int a :: st) I J Q := rL f90_56 rfl rfl
theorem x90_57 : Rn S 90 57 [v0, v1, v2, v3, v4] st I J Q = Rn S 90 58 [v0, v1, v2, v3, v4] (.int 1 :: st) I J Q := rS f90_57 rfl
theorem x90_58 : Rn S 90 58 [v0, v1, v2, .int a, v4] st I J Q = Rn S 90 59 [v0, v1, v2, .int a, v4] (.int a :: st) I J Q := rL f90_58 rfl rfl
theorem x90_59 : Rn S 90 59 [v0, v1, v2, v3, v4] (.int b :: .int a :: st) I J Q = Rn S 90 60 [v0, v1, v2, v3, v4] (.int (a <<< (b &&& 31)) :: st) I J Q := rS f90_59 rfl
theorem x90_60 : Rn S 90 60 [v0, v1, v2, v3, v4] (.int b :: .int a :: st) I J Q = Rn S 90 61 [v0, v1, v2, v3, v4] (.int (a ||| b) :: st) I J Q := rS f90_60 rfl
theorem x90_61 : Rn S 90 61 [v0, v1, v2, v3, v4] (.int a :: st) I J Q = Rn S 90 62 [v0, zkl v1, .int a, v3, v4] st I J Q := rL f90_61 rfl rfl
theorem x90_62 : Rn S 90 62 [v0, v1, v2, v3, v4] st I J Q = Rn S 90 63 [v0, v1, v2, v3, v4] (.int 0 :: st) I J Q := rS f90_62 rfl
theorem x90_63 : Rn S 90 63 [v0, v1, v2, v3, v4] (.int a :: st) I J Q = Rn S 90 65 [v0, v1, v2, zkl v3, .int a] st I J Q := rL f90_63 rfl rfl
theorem h90_65 : Rn S 90 65 [v0, v1, v2, v3, .int a] st I J Q = Rn S 90 67 [v0, v1, v2, v3, .int a] (.int a :: st) I J Q := rL f90_65 rfl rfl
theorem x90_67 : Rn S 90 67 [v0, v1, v2, v3, v4] st I J Q = Rn S 90 69 [v0, v1, v2, v3, v4] (.int 24 :: st) I J Q := rS f90_67 rfl
theorem x90_69 : Rn S 90 69 [v0, v1, v2, v3, v4] (.int b :: .int a :: st) I J Q = if a < b then Rn S 90 72 [v0, v1, v2, v3, v4] st I J Q else Rn S 90 99 [v0, v1, v2, v3, v4] st I J Q := rCge f90_69 rfl rfl
theorem x90_72 : Rn S 90 72 [.ref q, v1, v2, v3, v4] st I J Q = Rn S 90 73 [.ref q, v1, v2, v3, v4] (.ref q :: st) I J Q := rL f90_72 rfl rfl
theorem x90_73_0 : Rn (zG xl) 90 73 [v0, v1, v2, v3, v4] (.ref 0 :: st) I J Q = Rn (zG xl) 90 76 [v0, v1, v2, v3, v4] (.ref 63 :: st) I J Q := (rGf f90_73 rfl).trans (tr_and rfl)
theorem x90_76 : Rn S 90 76 [v0, v1, v2, .int a, v4] st I J Q = Rn S 90 77 [v0, v1, v2, .int a, v4] (.int a :: st) I J Q := rL f90_76 rfl rfl
theorem x90_77 : Rn S 90 77 [v0, v1, v2, v3, v4] st I J Q = Rn S 90 79 [v0, v1, v2, v3, v4] (.int 24 :: st) I J Q := rS f90_77 rfl
theorem x90_79 : Rn S 90 79 [v0, v1, v2, v3, v4] (.int b :: .int a :: st) I J Q = Rn S 90 80 [v0, v1, v2, v3, v4] (.int (a * b) :: st) I J Q := rS f90_79 rfl
theorem x90_80 : Rn S 90 80 [v0, v1, v2, v3, .int a] st I J Q = Rn S 90 82 [v0, v1, v2, v3, .int a] (.int a :: st) I J Q := rL f90_80 rfl rfl
theorem x90_82 : Rn S 90 82 [v0, v1, v2, v3, v4] (.int b :: .int a :: st) I J Q = Rn S 90 83 [v0, v1, v2, v3, v4] (.int (a + b) :: st) I J Q := rS f90_82 rfl
theorem x90_83 : Rn S 90 83 [.ref q, v1, v2, v3, v4] st I J Q = Rn S 90 84 [.ref q, v1, v2, v3, v4] (.ref q :: st) I J Q := rL f90_83 rfl rfl
theorem x90_84_0 : Rn (zG xl) 90 84 [v0, v1, v2, v3, v4] (.ref 0 :: st) I J Q = Rn (zG xl) 90 87 [v0, v1, v2, v3, v4] (.ref 38 :: st) I J Q := (rGf f90_84 rfl).trans (tr_and rfl)
theorem x90_87 : Rn S 90 87 [v0, v1, v2, v3, .int a] st I J Q = Rn S 90 89 [v0, v1, v2, v3, .int a] (.int a :: st) I J Q := rL f90_87 rfl rfl
theorem x90_89 : Rn S 90 89 [v0, v1, v2, v3, v4] (.int a0 :: .ref q :: st) I J Q = ((zcls S q = 0 ∧ zcs st ≤ 8) ∧ Rn S 7 0 [.ref q, .int a0, .null, .null] [] I J (fun v I' J' => Rn S 90 92 [v0, v1, v2, v3, v4] (v.toList ++ st) I' J' Q)) := rCV (As := [.int a0]) f90_89 rfl rfl rfl rfl (Nat.le_of_ble_eq_true rfl)
theorem x90_92 : Rn S 90 92 [v0, v1, v2, v3, v4] (.int b :: .int a :: .ref q :: st) I J Q = (zas S q a ∧ Rn S 90 93 [v0, v1, v2, v3, v4] st (zr I q (upd (I q) a.toNatClampNeg b)) J Q) := rIas f90_92
theorem x90_93 : Rn S 90 93 [v0, v1, v2, v3, .int a] st I J Q = Rn S 90 96 [v0, v1, v2, zkl v3, .int (a + 1)] st I J Q := rL f90_93 rfl rfl
theorem x90_96 : Rn S 90 96 [v0, v1, v2, v3, v4] st I J Q = Rn S 90 65 [v0, v1, v2, v3, v4] st I J Q := rB f90_96 rfl rfl rfl
theorem x90_99 : Rn S 90 99 [v0, v1, v2, .int a, v4] st I J Q = Rn S 90 102 [v0, v1, zkl v2, .int (a + 1), v4] st I J Q := rL f90_99 rfl rfl
theorem x90_102 : Rn S 90 102 [v0, v1, v2, v3, v4] st I J Q = Rn S 90 15 [v0, v1, v2, v3, v4] st I J Q := rB f90_102 rfl rfl rfl
theorem x90_105 : Rn S 90 105 [v0, v1, .int a, v3, v4] st I J Q = Rn S 90 106 [v0, v1, .int a, v3, v4] (.int a :: st) I J Q := rL f90_105 rfl rfl
theorem x90_106 : Rn S 90 106 [v0, v1, v2, v3, v4] [.int a] I J Q = Q (some (.int a)) I J := rR f90_106 rfl rfl rfl rfl rfl
/-! X5.greatestAlike: 91 -/
theorem B91 : zB 91 = cX5_greatestAlike := rfl
theorem f91_0 : zft 91 0 = some (.iconst 0, 1) := fet B91 (by decide +kernel) (Or.inr rfl)
theorem f91_1 : zft 91 1 = some (.istore_n 3, 1) := fet B91 (by decide +kernel) (Or.inr rfl)
theorem f91_2 : zft 91 2 = some (.iconst 1, 1) := fet B91 (by decide +kernel) (Or.inr rfl)
theorem f91_3 : zft 91 3 = some (.istore 4, 2) := fet B91 (by decide +kernel) (Or.inr rfl)
theorem f91_5 : zft 91 5 = some (.iload 4, 2) := fet B91 (by decide +kernel) (Or.inr rfl)
theorem f91_7 : zft 91 7 = some (.bipush 9, 2) := fet B91 (by decide +kernel) (Or.inr rfl)
theorem f91_9 : zft 91 9 = some (.if_icmp .gt 92, 3) := fet B91 (by decide +kernel) (Or.inr rfl)
theorem f91_12 : zft 91 12 = some (.iconst 0, 1) := fet B91 (by decide +kernel) (Or.inr rfl)
theorem f91_13 : zft 91 13 = some (.istore 5, 2) := fet B91 (by decide +kernel) (Or.inr rfl)
theorem f91_15 : zft 91 15 = some (.iconst 1, 1) := fet B91 (by decide +kernel) (Or.inr rfl)
theorem f91_16 : zft 91 16 = some (.istore 6, 2) := fet B91 (by decide +kernel) (Or.inr rfl)
theorem f91_18 : zft 91 18 = some (.iload 6, 2) := fet B91 (by decide +kernel) (Or.inr rfl)
theorem f91_20 : zft 91 20 = some (.bipush 9, 2) := fet B91 (by decide +kernel) (Or.inr rfl)
theorem f91_22 : zft 91 22 = some (.if_icmp .gt 66, 3) := fet B91 (by decide +kernel) (Or.inr rfl)
theorem f91_25 : zft 91 25 = some (.iload_n 1, 1) := fet B91 (by decide +kernel) (Or.inr rfl)
theorem f91_26 : zft 91 26 = some (.iload 4, 2) := fet B91 (by decide +kernel) (Or.inr rfl)
theorem f91_28 : zft 91 28 = some (.ishr, 1) := fet B91 (by decide +kernel) (Or.inr rfl)
theorem f91_29 : zft 91 29 = some (.iload_n 1, 1) := fet B91 (by decide +kernel) (Or.inr rfl)
theorem f91_30 : zft 91 30 = some (.iload 6, 2) := fet B91 (by decide +kernel) (Or.inr rfl)
theorem f91_32 : zft 91 32 = some (.ishr, 1) := fet B91 (by decide +kernel) (Or.inr rfl)
theorem f91_33 : zft 91 33 = some (.iand, 1) := fet B91 (by decide +kernel) (Or.inr rfl)
theorem f91_34 : zft 91 34 = some (.iconst 1, 1) := fet B91 (by decide +kernel) (Or.inr rfl)
theorem f91_35 : zft 91 35 = some (.iand, 1) := fet B91 (by decide +kernel) (Or.inr rfl)
theorem f91_36 : zft 91 36 = some (.iconst 1, 1) := fet B91 (by decide +kernel) (Or.inr rfl)
theorem f91_37 : zft 91 37 = some (.if_icmp .ne 7, 3) := fet B91 (by decide +kernel) (Or.inr rfl)
theorem f91_40 : zft 91 40 = some (.iconst 1, 1) := fet B91 (by decide +kernel) (Or.inr rfl)
theorem f91_41 : zft 91 41 = some (.goto 4, 3) := fet B91 (by decide +kernel) (Or.inr rfl)
theorem f91_44 : zft 91 44 = some (.iconst 0, 1) := fet B91 (by decide +kernel) (Or.inr rfl)
theorem f91_45 : zft 91 45 = some (.istore 7, 2) := fet B91 (by decide +kernel) (Or.inr rfl)
theorem f91_47 : zft 91 47 = some (.iload 7, 2) := fet B91 (by decide +kernel) (Or.inr rfl)
theorem f91_49 : zft 91 49 = some (.ifCond .eq 33, 3) := fet B91 (by decide +kernel) (Or.inr rfl)
theorem f91_52 : zft 91 52 = some (.aload_n 0, 1) := fet B91 (by decide +kernel) (Or.inr rfl)
theorem f91_53 : zft 91 53 = some (.getfield 65, 3) := fet B91 (by decide +kernel) (Or.inr rfl)
theorem f91_56 : zft 91 56 = some (.iload 4, 2) := fet B91 (by decide +kernel) (Or.inr rfl)
theorem f91_58 : zft 91 58 = some (.bipush 24, 2) := fet B91 (by decide +kernel) (Or.inr rfl)
theorem f91_60 : zft 91 60 = some (.imul, 1) := fet B91 (by decide +kernel) (Or.inr rfl)
theorem f91_61 : zft 91 61 = some (.iload_n 2, 1) := fet B91 (by decide +kernel) (Or.inr rfl)
theorem f91_62 : zft 91 62 = some (.iadd, 1) := fet B91 (by decide +kernel) (Or.inr rfl)
theorem f91_63 : zft 91 63 = some (.iaload, 1) := fet B91 (by decide +kernel) (Or.inr rfl)
theorem f91_64 : zft 91 64 = some (.aload_n 0, 1) := fet B91 (by decide +kernel) (Or.inr rfl)
theorem f91_65 : zft 91 65 = some (.getfield 65, 3) := fet B91 (by decide +kernel) (Or.inr rfl)
theorem f91_68 : zft 91 68 = some (.iload 6, 2) := fet B91 (by decide +kernel) (Or.inr rfl)
theorem f91_70 : zft 91 70 = some (.bipush 24, 2) := fet B91 (by decide +kernel) (Or.inr rfl)
theorem f91_72 : zft 91 72 = some (.imul, 1) := fet B91 (by decide +kernel) (Or.inr rfl)
theorem f91_73 : zft 91 73 = some (.iload_n 2, 1) := fet B91 (by decide +kernel) (Or.inr rfl)
theorem f91_74 : zft 91 74 = some (.iadd, 1) := fet B91 (by decide +kernel) (Or.inr rfl)
theorem f91_75 : zft 91 75 = some (.iaload, 1) := fet B91 (by decide +kernel) (Or.inr rfl)
theorem f91_76 : zft 91 76 = some (.if_icmp .ne 6, 3) := fet B91 (by decide +kernel) (Or.inr rfl)
theorem f91_79 : zft 91 79 = some (.iinc 5 1, 3) := fet B91 (by decide +kernel) (Or.inr rfl)
theorem f91_82 : zft 91 82 = some (.iinc 6 1, 3) := fet B91 (by decide +kernel) (Or.inr rfl)
theorem f91_85 : zft 91 85 = some (.goto (-67), 3) := fet B91 (by decide +kernel) (Or.inr rfl)
theorem f91_88 : zft 91 88 = some (.iload_n 3, 1) := fet B91 (by decide +kernel) (Or.inr rfl)
theorem f91_89 : zft 91 89 = some (.iload 5, 2) := fet B91 (by decide +kernel) (Or.inr rfl)
theorem f91_91 : zft 91 91 = some (.invokestatic 369, 3) := fet B91 (by decide +kernel) (Or.inr rfl)
theorem f91_94 : zft 91 94 = some (.istore_n 3, 1) := fet B91 (by decide +kernel) (Or.inr rfl)
theorem f91_95 : zft 91 95 = some (.iinc 4 1, 3) := fet B91 (by decide +kernel) (Or.inr rfl)
theorem f91_98 : zft 91 98 = some (.goto (-93), 3) := fet B91 (by decide +kernel) (Or.inr rfl)
theorem f91_101 : zft 91 101 = some (.iload_n 3, 1) := fet B91 (by decide +kernel) (Or.inr rfl)
theorem f91_102 : zft 91 102 = some (.ireturn, 1) := fet B91 (by decide +kernel) (Or.inr rfl)
theorem x91_0 : Rn S 91 0 [v0, v1, v2, v3, v4, v5, v6, v7] st I J Q = Rn S 91 1 [v0, v1, v2, v3, v4, v5, v6, v7] (.int 0 :: st) I J Q := rS f91_0 rfl
theorem x91_1 : Rn S 91 1 [v0, v1, v2, v3, v4, v5, v6, v7] (.int a :: st) I J Q = Rn S 91 2 [v0, v1, zkl v2, .int a, v4, v5, v6, v7] st I J Q := rL f91_1 rfl rfl
theorem x91_2 : Rn S 91 2 [v0, v1, v2, v3, v4, v5, v6, v7] st I J Q = Rn S 91 3 [v0, v1, v2, v3, v4, v5, v6, v7] (.int 1 :: st) I J Q := rS f91_2 rfl
theorem x91_3 : Rn S 91 3 [v0, v1, v2, v3, v4, v5, v6, v7] (.int a :: st) I J Q = Rn S 91 5 [v0, v1, v2, zkl v3, .int a, v5, v6, v7] st I J Q := rL f91_3 rfl rfl
theorem h91_5 : Rn S 91 5 [v0, v1, v2, v3, .int a, v5, v6, v7] st I J Q = Rn S 91 7 [v0, v1, v2, v3, .int a, v5, v6, v7] (.int a :: st) I J Q := rL f91_5 rfl rfl
theorem x91_7 : Rn S 91 7 [v0, v1, v2, v3, v4, v5, v6, v7] st I J Q = Rn S 91 9 [v0, v1, v2, v3, v4, v5, v6, v7] (.int 9 :: st) I J Q := rS f91_7 rfl
theorem x91_9 : Rn S 91 9 [v0, v1, v2, v3, v4, v5, v6, v7] (.int b :: .int a :: st) I J Q = if b < a then Rn S 91 101 [v0, v1, v2, v3, v4, v5, v6, v7] st I J Q else Rn S 91 12 [v0, v1, v2, v3, v4, v5, v6, v7] st I J Q := rCgt f91_9 rfl rfl
theorem x91_12 : Rn S 91 12 [v0, v1, v2, v3, v4, v5, v6, v7] st I J Q = Rn S 91 13 [v0, v1, v2, v3, v4, v5, v6, v7] (.int 0 :: st) I J Q := rS f91_12 rfl
theorem x91_13 : Rn S 91 13 [v0, v1, v2, v3, v4, v5, v6, v7] (.int a :: st) I J Q = Rn S 91 15 [v0, v1, v2, v3, zkl v4, .int a, v6, v7] st I J Q := rL f91_13 rfl rfl
theorem x91_15 : Rn S 91 15 [v0, v1, v2, v3, v4, v5, v6, v7] st I J Q = Rn S 91 16 [v0, v1, v2, v3, v4, v5, v6, v7] (.int 1 :: st) I J Q := rS f91_15 rfl
theorem x91_16 : Rn S 91 16 [v0, v1, v2, v3, v4, v5, v6, v7] (.int a :: st) I J Q = Rn S 91 18 [v0, v1, v2, v3, v4, zkl v5, .int a, v7] st I J Q := rL f91_16 rfl rfl
theorem h91_18 : Rn S 91 18 [v0, v1, v2, v3, v4, v5, .int a, v7] st I J Q = Rn S 91 20 [v0, v1, v2, v3, v4, v5, .int a, v7] (.int a :: st) I J Q := rL f91_18 rfl rfl
theorem x91_20 : Rn S 91 20 [v0, v1, v2, v3, v4, v5, v6, v7] st I J Q = Rn S 91 22 [v0, v1, v2, v3, v4, v5, v6, v7] (.int 9 :: st) I J Q := rS f91_20 rfl
theorem x91_22 : Rn S 91 22 [v0, v1, v2, v3, v4, v5, v6, v7] (.int b :: .int a :: st) I J Q = if b < a then Rn S 91 88 [v0, v1, v2, v3, v4, v5, v6, v7] st I J Q else Rn S 91 25 [v0, v1, v2, v3, v4, v5, v6, v7] st I J Q := rCgt f91_22 rfl rfl
theorem x91_25 : Rn S 91 25 [v0, .int a, v2, v3, v4, v5, v6, v7] st I J Q = Rn S 91 26 [v0, .int a, v2, v3, v4, v5, v6, v7] (.int a :: st) I J Q := rL f91_25 rfl rfl
theorem x91_26 : Rn S 91 26 [v0, v1, v2, v3, .int a, v5, v6, v7] st I J Q = Rn S 91 28 [v0, v1, v2, v3, .int a, v5, v6, v7] (.int a :: st) I J Q := rL f91_26 rfl rfl
theorem x91_28 : Rn S 91 28 [v0, v1, v2, v3, v4, v5, v6, v7] (.int b :: .int a :: st) I J Q = Rn S 91 29 [v0, v1, v2, v3, v4, v5, v6, v7] (.int (a >>> (b &&& 31)) :: st) I J Q := rS f91_28 rfl
theorem x91_29 : Rn S 91 29 [v0, .int a, v2, v3, v4, v5, v6, v7] st I J Q = Rn S 91 30 [v0, .int a, v2, v3, v4, v5, v6, v7] (.int a :: st) I J Q := rL f91_29 rfl rfl
theorem x91_30 : Rn S 91 30 [v0, v1, v2, v3, v4, v5, .int a, v7] st I J Q = Rn S 91 32 [v0, v1, v2, v3, v4, v5, .int a, v7] (.int a :: st) I J Q := rL f91_30 rfl rfl
theorem x91_32 : Rn S 91 32 [v0, v1, v2, v3, v4, v5, v6, v7] (.int b :: .int a :: st) I J Q = Rn S 91 33 [v0, v1, v2, v3, v4, v5, v6, v7] (.int (a >>> (b &&& 31)) :: st) I J Q := rS f91_32 rfl
theorem x91_33 : Rn S 91 33 [v0, v1, v2, v3, v4, v5, v6, v7] (.int b :: .int a :: st) I J Q = Rn S 91 34 [v0, v1, v2, v3, v4, v5, v6, v7] (.int (a &&& b) :: st) I J Q := rS f91_33 rfl
theorem x91_34 : Rn S 91 34 [v0, v1, v2, v3, v4, v5, v6, v7] st I J Q = Rn S 91 35 [v0, v1, v2, v3, v4, v5, v6, v7] (.int 1 :: st) I J Q := rS f91_34 rfl
theorem x91_35 : Rn S 91 35 [v0, v1, v2, v3, v4, v5, v6, v7] (.int b :: .int a :: st) I J Q = Rn S 91 36 [v0, v1, v2, v3, v4, v5, v6, v7] (.int (a &&& b) :: st) I J Q := rS f91_35 rfl
theorem x91_36 : Rn S 91 36 [v0, v1, v2, v3, v4, v5, v6, v7] st I J Q = Rn S 91 37 [v0, v1, v2, v3, v4, v5, v6, v7] (.int 1 :: st) I J Q := rS f91_36 rfl
theorem x91_37 : Rn S 91 37 [v0, v1, v2, v3, v4, v5, v6, v7] (.int b :: .int a :: st) I J Q = if a = b then Rn S 91 40 [v0, v1, v2, v3, v4, v5, v6, v7] st I J Q else Rn S 91 44 [v0, v1, v2, v3, v4, v5, v6, v7] st I J Q := rCne f91_37 rfl rfl
theorem x91_40 : Rn S 91 40 [v0, v1, v2, v3, v4, v5, v6, v7] st I J Q = Rn S 91 41 [v0, v1, v2, v3, v4, v5, v6, v7] (.int 1 :: st) I J Q := rS f91_40 rfl
theorem x91_41 : Rn S 91 41 [v0, v1, v2, v3, v4, v5, v6, v7] st I J Q = Rn S 91 45 [v0, v1, v2, v3, v4, v5, v6, v7] st I J Q := rB f91_41 rfl rfl rfl
theorem x91_44 : Rn S 91 44 [v0, v1, v2, v3, v4, v5, v6, v7] st I J Q = Rn S 91 45 [v0, v1, v2, v3, v4, v5, v6, v7] (.int 0 :: st) I J Q := rS f91_44 rfl
theorem x91_45 : Rn S 91 45 [v0, v1, v2, v3, v4, v5, v6, v7] (.int a :: st) I J Q = Rn S 91 47 [v0, v1, v2, v3, v4, v5, zkl v6, .int a] st I J Q := rL f91_45 rfl rfl
theorem x91_47 : Rn S 91 47 [v0, v1, v2, v3, v4, v5, v6, .int a] st I J Q = Rn S 91 49 [v0, v1, v2, v3, v4, v5, v6, .int a] (.int a :: st) I J Q := rL f91_47 rfl rfl
theorem x91_49 : Rn S 91 49 [v0, v1, v2, v3, v4, v5, v6, v7] (.int a :: st) I J Q = if a = 0 then Rn S 91 82 [v0, v1, v2, v3, v4, v5, v6, v7] st I J Q else Rn S 91 52 [v0, v1, v2, v3, v4, v5, v6, v7] st I J Q := rIeq f91_49 rfl rfl
theorem x91_52 : Rn S 91 52 [.ref q, v1, v2, v3, v4, v5, v6, v7] st I J Q = Rn S 91 53 [.ref q, v1, v2, v3, v4, v5, v6, v7] (.ref q :: st) I J Q := rL f91_52 rfl rfl
theorem x91_53_0 : Rn (zG xl) 91 53 [v0, v1, v2, v3, v4, v5, v6, v7] (.ref 0 :: st) I J Q = Rn (zG xl) 91 56 [v0, v1, v2, v3, v4, v5, v6, v7] (.ref 63 :: st) I J Q := (rGf f91_53 rfl).trans (tr_and rfl)
theorem x91_56 : Rn S 91 56 [v0, v1, v2, v3, .int a, v5, v6, v7] st I J Q = Rn S 91 58 [v0, v1, v2, v3, .int a, v5, v6, v7] (.int a :: st) I J Q := rL f91_56 rfl rfl
theorem x91_58 : Rn S 91 58 [v0, v1, v2, v3, v4, v5, v6, v7] st I J Q = Rn S 91 60 [v0, v1, v2, v3, v4, v5, v6, v7] (.int 24 :: st) I J Q := rS f91_58 rfl
theorem x91_60 : Rn S 91 60 [v0, v1, v2, v3, v4, v5, v6, v7] (.int b :: .int a :: st) I J Q = Rn S 91 61 [v0, v1, v2, v3, v4, v5, v6, v7] (.int (a * b) :: st) I J Q := rS f91_60 rfl
theorem x91_61 : Rn S 91 61 [v0, v1, .int a, v3, v4, v5, v6, v7] st I J Q = Rn S 91 62 [v0, v1, .int a, v3, v4, v5, v6, v7] (.int a :: st) I J Q := rL f91_61 rfl rfl
theorem x91_62 : Rn S 91 62 [v0, v1, v2, v3, v4, v5, v6, v7] (.int b :: .int a :: st) I J Q = Rn S 91 63 [v0, v1, v2, v3, v4, v5, v6, v7] (.int (a + b) :: st) I J Q := rS f91_62 rfl
theorem x91_63 : Rn S 91 63 [v0, v1, v2, v3, v4, v5, v6, v7] (.int a :: .ref q :: st) I J Q = (zai S q a ∧ Rn S 91 64 [v0, v1, v2, v3, v4, v5, v6, v7] (.int (I q a.toNatClampNeg) :: st) I J Q) := rIal f91_63
theorem x91_64 : Rn S 91 64 [.ref q, v1, v2, v3, v4, v5, v6, v7] st I J Q = Rn S 91 65 [.ref q, v1, v2, v3, v4, v5, v6, v7] (.ref q :: st) I J Q := rL f91_64 rfl rfl
theorem x91_65_0 : Rn (zG xl) 91 65 [v0, v1, v2, v3, v4, v5, v6, v7] (.ref 0 :: st) I J Q = Rn (zG xl) 91 68 [v0, v1, v2, v3, v4, v5, v6, v7] (.ref 63 :: st) I J Q := (rGf f91_65 rfl).trans (tr_and rfl)
theorem x91_68 : Rn S 91 68 [v0, v1, v2, v3, v4, v5, .int a, v7] st I J Q = Rn S 91 70 [v0, v1, v2, v3, v4, v5, .int a, v7] (.int a :: st) I J Q := rL f91_68 rfl rfl
theorem x91_70 : Rn S 91 70 [v0, v1, v2, v3, v4, v5, v6, v7] st I J Q = Rn S 91 72 [v0, v1, v2, v3, v4, v5, v6, v7] (.int 24 :: st) I J Q := rS f91_70 rfl
theorem x91_72 : Rn S 91 72 [v0, v1, v2, v3, v4, v5, v6, v7] (.int b :: .int a :: st) I J Q = Rn S 91 73 [v0, v1, v2, v3, v4, v5, v6, v7] (.int (a * b) :: st) I J Q := rS f91_72 rfl
theorem x91_73 : Rn S 91 73 [v0, v1, .int a, v3, v4, v5, v6, v7] st I J Q = Rn S 91 74 [v0, v1, .int a, v3, v4, v5, v6, v7] (.int a :: st) I J Q := rL f91_73 rfl rfl
theorem x91_74 : Rn S 91 74 [v0, v1, v2, v3, v4, v5, v6, v7] (.int b :: .int a :: st) I J Q = Rn S 91 75 [v0, v1, v2, v3, v4, v5, v6, v7] (.int (a + b) :: st) I J Q := rS f91_74 rfl
theorem x91_75 : Rn S 91 75 [v0, v1, v2, v3, v4, v5, v6, v7] (.int a :: .ref q :: st) I J Q = (zai S q a ∧ Rn S 91 76 [v0, v1, v2, v3, v4, v5, v6, v7] (.int (I q a.toNatClampNeg) :: st) I J Q) := rIal f91_75
theorem x91_76 : Rn S 91 76 [v0, v1, v2, v3, v4, v5, v6, v7] (.int b :: .int a :: st) I J Q = if a = b then Rn S 91 79 [v0, v1, v2, v3, v4, v5, v6, v7] st I J Q else Rn S 91 82 [v0, v1, v2, v3, v4, v5, v6, v7] st I J Q := rCne f91_76 rfl rfl
theorem x91_79 : Rn S 91 79 [v0, v1, v2, v3, v4, .int a, v6, v7] st I J Q = Rn S 91 82 [v0, v1, v2, v3, zkl v4, .int (a + 1), v6, v7] st I J Q := rL f91_79 rfl rfl
theorem x91_82 : Rn S 91 82 [v0, v1, v2, v3, v4, v5, .int a, v7] st I J Q = Rn S 91 85 [v0, v1, v2, v3, v4, zkl v5, .int (a + 1), v7] st I J Q := rL f91_82 rfl rfl
theorem x91_85 : Rn S 91 85 [v0, v1, v2, v3, v4, v5, v6, v7] st I J Q = Rn S 91 18 [v0, v1, v2, v3, v4, v5, v6, v7] st I J Q := rB f91_85 rfl rfl rfl
theorem x91_88 : Rn S 91 88 [v0, v1, v2, .int a, v4, v5, v6, v7] st I J Q = Rn S 91 89 [v0, v1, v2, .int a, v4, v5, v6, v7] (.int a :: st) I J Q := rL f91_88 rfl rfl
theorem x91_89 : Rn S 91 89 [v0, v1, v2, v3, v4, .int a, v6, v7] st I J Q = Rn S 91 91 [v0, v1, v2, v3, v4, .int a, v6, v7] (.int a :: st) I J Q := rL f91_89 rfl rfl
theorem x91_91 : Rn S 91 91 [v0, v1, v2, v3, v4, v5, v6, v7] (.int b :: .int a :: st) I J Q = (zcs st ≤ 8 ∧ Rn S 91 94 [v0, v1, v2, v3, v4, v5, v6, v7] (.int (if a < b then b else a) :: st) I J Q) := rMx f91_91 rfl rfl ⟨Nat.le_of_ble_eq_true rfl, Nat.le_of_ble_eq_true rfl⟩
theorem x91_94 : Rn S 91 94 [v0, v1, v2, v3, v4, v5, v6, v7] (.int a :: st) I J Q = Rn S 91 95 [v0, v1, zkl v2, .int a, v4, v5, v6, v7] st I J Q := rL f91_94 rfl rfl
theorem x91_95 : Rn S 91 95 [v0, v1, v2, v3, .int a, v5, v6, v7] st I J Q = Rn S 91 98 [v0, v1, v2, zkl v3, .int (a + 1), v5, v6, v7] st I J Q := rL f91_95 rfl rfl
theorem x91_98 : Rn S 91 98 [v0, v1, v2, v3, v4, v5, v6, v7] st I J Q = Rn S 91 5 [v0, v1, v2, v3, v4, v5, v6, v7] st I J Q := rB f91_98 rfl rfl rfl
theorem x91_101 : Rn S 91 101 [v0, v1, v2, .int a, v4, v5, v6, v7] st I J Q = Rn S 91 102 [v0, v1, v2, .int a, v4, v5, v6, v7] (.int a :: st) I J Q := rL f91_101 rfl rfl
theorem x91_102 : Rn S 91 102 [v0, v1, v2, v3, v4, v5, v6, v7] [.int a] I J Q = Q (some (.int a)) I J := rR f91_102 rfl rfl rfl rfl rfl
/-! X5.weighChances: 92 -/
theorem B92 : zB 92 = cX5_weighChances := rfl
theorem f92_0 : zft 92 0 = some (.aload_n 0, 1) := fet B92 (by decide +kernel) (Or.inr rfl)
theorem f92_1 : zft 92 1 = some (.getfield 68, 3) := fet B92 (by decide +kernel) (Or.inr rfl)
theorem f92_4 : zft 92 4 = some (.lconst 0, 1) := fet B92 (by decide +kernel) (Or.inr rfl)
theorem f92_5 : zft 92 5 = some (.invokestatic 372, 3) := fet B92 (by decide +kernel) (Or.inr rfl)
theorem f92_8 : zft 92 8 = some (.aload_n 0, 1) := fet B92 (by decide +kernel) (Or.inr rfl)
theorem f92_9 : zft 92 9 = some (.getfield 38, 3) := fet B92 (by decide +kernel) (Or.inr rfl)
theorem f92_12 : zft 92 12 = some (.aload_n 0, 1) := fet B92 (by decide +kernel) (Or.inr rfl)
theorem f92_13 : zft 92 13 = some (.getfield 27, 3) := fet B92 (by decide +kernel) (Or.inr rfl)
theorem f92_16 : zft 92 16 = some (.invokevirtual 197, 3) := fet B92 (by decide +kernel) (Or.inr rfl)
theorem f92_19 : zft 92 19 = some (.iconst 1, 1) := fet B92 (by decide +kernel) (Or.inr rfl)
theorem f92_20 : zft 92 20 = some (.aload_n 0, 1) := fet B92 (by decide +kernel) (Or.inr rfl)
theorem f92_21 : zft 92 21 = some (.getfield 27, 3) := fet B92 (by decide +kernel) (Or.inr rfl)
theorem f92_24 : zft 92 24 = some (.getfield 131, 3) := fet B92 (by decide +kernel) (Or.inr rfl)
theorem f92_27 : zft 92 27 = some (.ishl, 1) := fet B92 (by decide +kernel) (Or.inr rfl)
theorem f92_28 : zft 92 28 = some (.istore_n 2, 1) := fet B92 (by decide +kernel) (Or.inr rfl)
theorem f92_29 : zft 92 29 = some (.iconst 0, 1) := fet B92 (by decide +kernel) (Or.inr rfl)
theorem f92_30 : zft 92 30 = some (.istore_n 3, 1) := fet B92 (by decide +kernel) (Or.inr rfl)
theorem f92_31 : zft 92 31 = some (.iload_n 3, 1) := fet B92 (by decide +kernel) (Or.inr rfl)
theorem f92_32 : zft 92 32 = some (.iload_n 2, 1) := fet B92 (by decide +kernel) (Or.inr rfl)
theorem f92_33 : zft 92 33 = some (.if_icmp .ge 93, 3) := fet B92 (by decide +kernel) (Or.inr rfl)
theorem f92_36 : zft 92 36 = some (.aload_n 0, 1) := fet B92 (by decide +kernel) (Or.inr rfl)
theorem f92_37 : zft 92 37 = some (.iload_n 3, 1) := fet B92 (by decide +kernel) (Or.inr rfl)
theorem f92_38 : zft 92 38 = some (.iload_n 1, 1) := fet B92 (by decide +kernel) (Or.inr rfl)
theorem f92_39 : zft 92 39 = some (.invokevirtual 375, 3) := fet B92 (by decide +kernel) (Or.inr rfl)
theorem f92_42 : zft 92 42 = some (.lstore 4, 2) := fet B92 (by decide +kernel) (Or.inr rfl)
theorem f92_44 : zft 92 44 = some (.lload 4, 2) := fet B92 (by decide +kernel) (Or.inr rfl)
theorem f92_46 : zft 92 46 = some (.lconst 0, 1) := fet B92 (by decide +kernel) (Or.inr rfl)
theorem f92_47 : zft 92 47 = some (.lcmp, 1) := fet B92 (by decide +kernel) (Or.inr rfl)
theorem f92_48 : zft 92 48 = some (.ifCond .ne 6, 3) := fet B92 (by decide +kernel) (Or.inr rfl)
theorem f92_51 : zft 92 51 = some (.goto 69, 3) := fet B92 (by decide +kernel) (Or.inr rfl)
theorem f92_54 : zft 92 54 = some (.aload_n 0, 1) := fet B92 (by decide +kernel) (Or.inr rfl)
theorem f92_55 : zft 92 55 = some (.getfield 38, 3) := fet B92 (by decide +kernel) (Or.inr rfl)
theorem f92_58 : zft 92 58 = some (.iload_n 3, 1) := fet B92 (by decide +kernel) (Or.inr rfl)
theorem f92_59 : zft 92 59 = some (.putfield 212, 3) := fet B92 (by decide +kernel) (Or.inr rfl)
theorem f92_62 : zft 92 62 = some (.aload_n 0, 1) := fet B92 (by decide +kernel) (Or.inr rfl)
theorem f92_63 : zft 92 63 = some (.getfield 41, 3) := fet B92 (by decide +kernel) (Or.inr rfl)
theorem f92_66 : zft 92 66 = some (.aload_n 0, 1) := fet B92 (by decide +kernel) (Or.inr rfl)
theorem f92_67 : zft 92 67 = some (.getfield 38, 3) := fet B92 (by decide +kernel) (Or.inr rfl)
theorem f92_70 : zft 92 70 = some (.invokevirtual 123, 3) := fet B92 (by decide +kernel) (Or.inr rfl)
theorem f92_73 : zft 92 73 = some (.iconst 0, 1) := fet B92 (by decide +kernel) (Or.inr rfl)
theorem f92_74 : zft 92 74 = some (.istore 6, 2) := fet B92 (by decide +kernel) (Or.inr rfl)
theorem f92_76 : zft 92 76 = some (.iload 6, 2) := fet B92 (by decide +kernel) (Or.inr rfl)
theorem f92_78 : zft 92 78 = some (.aload_n 0, 1) := fet B92 (by decide +kernel) (Or.inr rfl)
theorem f92_79 : zft 92 79 = some (.getfield 27, 3) := fet B92 (by decide +kernel) (Or.inr rfl)
theorem f92_82 : zft 92 82 = some (.getfield 90, 3) := fet B92 (by decide +kernel) (Or.inr rfl)
theorem f92_85 : zft 92 85 = some (.if_icmp .ge 35, 3) := fet B92 (by decide +kernel) (Or.inr rfl)
theorem f92_88 : zft 92 88 = some (.aload_n 0, 1) := fet B92 (by decide +kernel) (Or.inr rfl)
theorem f92_89 : zft 92 89 = some (.getfield 41, 3) := fet B92 (by decide +kernel) (Or.inr rfl)
theorem f92_92 : zft 92 92 = some (.getfield 150, 3) := fet B92 (by decide +kernel) (Or.inr rfl)
theorem f92_95 : zft 92 95 = some (.iload 6, 2) := fet B92 (by decide +kernel) (Or.inr rfl)
theorem f92_97 : zft 92 97 = some (.iaload, 1) := fet B92 (by decide +kernel) (Or.inr rfl)
theorem f92_98 : zft 92 98 = some (.iconst (-1), 1) := fet B92 (by decide +kernel) (Or.inr rfl)
theorem f92_99 : zft 92 99 = some (.if_icmp .eq 15, 3) := fet B92 (by decide +kernel) (Or.inr rfl)
theorem f92_102 : zft 92 102 = some (.aload_n 0, 1) := fet B92 (by decide +kernel) (Or.inr rfl)
theorem f92_103 : zft 92 103 = some (.getfield 68, 3) := fet B92 (by decide +kernel) (Or.inr rfl)
theorem f92_106 : zft 92 106 = some (.iload 6, 2) := fet B92 (by decide +kernel) (Or.inr rfl)
theorem f92_108 : zft 92 108 = some (.dup2, 1) := fet B92 (by decide +kernel) (Or.inr rfl)
theorem f92_109 : zft 92 109 = some (.laload, 1) := fet B92 (by decide +kernel) (Or.inr rfl)
theorem f92_110 : zft 92 110 = some (.lload 4, 2) := fet B92 (by decide +kernel) (Or.inr rfl)
theorem f92_112 : zft 92 112 = some (.ladd, 1) := fet B92 (by decide +kernel) (Or.inr rfl)
theorem f92_113 : zft 92 113 = some (.lastore, 1) := fet B92 (by decide +kernel) (Or.inr rfl)
theorem f92_114 : zft 92 114 = some (.iinc 6 1, 3) := fet B92 (by decide +kernel) (Or.inr rfl)
theorem f92_117 : zft 92 117 = some (.goto (-41), 3) := fet B92 (by decide +kernel) (Or.inr rfl)
theorem f92_120 : zft 92 120 = some (.iinc 3 1, 3) := fet B92 (by decide +kernel) (Or.inr rfl)
theorem f92_123 : zft 92 123 = some (.goto (-92), 3) := fet B92 (by decide +kernel) (Or.inr rfl)
theorem f92_126 : zft 92 126 = some (.return_, 1) := fet B92 (by decide +kernel) (Or.inr rfl)
theorem x92_0 : Rn S 92 0 [.ref q, v1, v2, v3, v4, v5, v6] st I J Q = Rn S 92 1 [.ref q, v1, v2, v3, v4, v5, v6] (.ref q :: st) I J Q := rL f92_0 rfl rfl
theorem x92_1_0 : Rn (zG xl) 92 1 [v0, v1, v2, v3, v4, v5, v6] (.ref 0 :: st) I J Q = Rn (zG xl) 92 4 [v0, v1, v2, v3, v4, v5, v6] (.ref 64 :: st) I J Q := (rGf f92_1 rfl).trans (tr_and rfl)
theorem x92_4 : Rn S 92 4 [v0, v1, v2, v3, v4, v5, v6] st I J Q = Rn S 92 5 [v0, v1, v2, v3, v4, v5, v6] (.long 0 :: st) I J Q := rS f92_4 rfl
theorem x92_5 : Rn S 92 5 [v0, v1, v2, v3, v4, v5, v6] (.long u1 :: .ref q0 :: st) I J Q = (zcs st ≤ 8 ∧ Rn S 197 0 [.ref q0, .long u1, .null, .null, .null] [] I J (fun v I' J' => Rn S 92 8 [v0, v1, v2, v3, v4, v5, v6] (v.toList ++ st) I' J' Q)) := rCS (As := [.ref q0, .long u1]) f92_5 rfl rfl rfl rfl (Nat.le_of_ble_eq_true rfl)
theorem x92_8 : Rn S 92 8 [.ref q, v1, v2, v3, v4, v5, v6] st I J Q = Rn S 92 9 [.ref q, v1, v2, v3, v4, v5, v6] (.ref q :: st) I J Q := rL f92_8 rfl rfl
theorem x92_9_0 : Rn (zG xl) 92 9 [v0, v1, v2, v3, v4, v5, v6] (.ref 0 :: st) I J Q = Rn (zG xl) 92 12 [v0, v1, v2, v3, v4, v5, v6] (.ref 28 :: st) I J Q := (rGf f92_9 rfl).trans (tr_and rfl)
theorem x92_12 : Rn S 92 12 [.ref q, v1, v2, v3, v4, v5, v6] st I J Q = Rn S 92 13 [.ref q, v1, v2, v3, v4, v5, v6] (.ref q :: st) I J Q := rL f92_12 rfl rfl
theorem x92_13_0 : Rn (zG xl) 92 13 [v0, v1, v2, v3, v4, v5, v6] (.ref 0 :: st) I J Q = Rn (zG xl) 92 16 [v0, v1, v2, v3, v4, v5, v6] (.ref 8 :: st) I J Q := (rGf f92_13 rfl).trans (tr_and rfl)
theorem x92_16 : Rn S 92 16 [v0, v1, v2, v3, v4, v5, v6] (.ref q0 :: .ref q :: st) I J Q = ((zcls S q = 1 ∧ zcs st ≤ 8) ∧ Rn S 14 0 [.ref q, .ref q0] [] I J (fun v I' J' => Rn S 92 19 [v0, v1, v2, v3, v4, v5, v6] (v.toList ++ st) I' J' Q)) := rCV (As := [.ref q0]) f92_16 rfl rfl rfl rfl (Nat.le_of_ble_eq_true rfl)
theorem x92_19 : Rn S 92 19 [v0, v1, v2, v3, v4, v5, v6] st I J Q = Rn S 92 20 [v0, v1, v2, v3, v4, v5, v6] (.int 1 :: st) I J Q := rS f92_19 rfl
theorem x92_20 : Rn S 92 20 [.ref q, v1, v2, v3, v4, v5, v6] st I J Q = Rn S 92 21 [.ref q, v1, v2, v3, v4, v5, v6] (.ref q :: st) I J Q := rL f92_20 rfl rfl
theorem x92_21_0 : Rn (zG xl) 92 21 [v0, v1, v2, v3, v4, v5, v6] (.ref 0 :: st) I J Q = Rn (zG xl) 92 24 [v0, v1, v2, v3, v4, v5, v6] (.ref 8 :: st) I J Q := (rGf f92_21 rfl).trans (tr_and rfl)
theorem x92_24_8 : Rn (zG xl) 92 24 [v0, v1, v2, v3, v4, v5, v6] (.ref 8 :: st) I J Q = Rn (zG xl) 92 27 [v0, v1, v2, v3, v4, v5, v6] (.int (I 8 9) :: st) I J Q := (rGf f92_24 rfl).trans (tr_and rfl)
theorem x92_24_28 : Rn (zG xl) 92 24 [v0, v1, v2, v3, v4, v5, v6] (.ref 28 :: st) I J Q = Rn (zG xl) 92 27 [v0, v1, v2, v3, v4, v5, v6] (.int (I 28 9) :: st) I J Q := (rGf f92_24 rfl).trans (tr_and rfl)
theorem x92_27 : Rn S 92 27 [v0, v1, v2, v3, v4, v5, v6] (.int b :: .int a :: st) I J Q = Rn S 92 28 [v0, v1, v2, v3, v4, v5, v6] (.int (a <<< (b &&& 31)) :: st) I J Q := rS f92_27 rfl
theorem x92_28 : Rn S 92 28 [v0, v1, v2, v3, v4, v5, v6] (.int a :: st) I J Q = Rn S 92 29 [v0, zkl v1, .int a, v3, v4, v5, v6] st I J Q := rL f92_28 rfl rfl
theorem x92_29 : Rn S 92 29 [v0, v1, v2, v3, v4, v5, v6] st I J Q = Rn S 92 30 [v0, v1, v2, v3, v4, v5, v6] (.int 0 :: st) I J Q := rS f92_29 rfl
theorem x92_30 : Rn S 92 30 [v0, v1, v2, v3, v4, v5, v6] (.int a :: st) I J Q = Rn S 92 31 [v0, v1, zkl v2, .int a, v4, v5, v6] st I J Q := rL f92_30 rfl rfl
theorem h92_31 : Rn S 92 31 [v0, v1, v2, .int a, v4, v5, v6] st I J Q = Rn S 92 32 [v0, v1, v2, .int a, v4, v5, v6] (.int a :: st) I J Q := rL f92_31 rfl rfl
theorem x92_32 : Rn S 92 32 [v0, v1, .int a, v3, v4, v5, v6] st I J Q = Rn S 92 33 [v0, v1, .int a, v3, v4, v5, v6] (.int a :: st) I J Q := rL f92_32 rfl rfl
theorem x92_33 : Rn S 92 33 [v0, v1, v2, v3, v4, v5, v6] (.int b :: .int a :: st) I J Q = if a < b then Rn S 92 36 [v0, v1, v2, v3, v4, v5, v6] st I J Q else Rn S 92 126 [v0, v1, v2, v3, v4, v5, v6] st I J Q := rCge f92_33 rfl rfl
theorem x92_36 : Rn S 92 36 [.ref q, v1, v2, v3, v4, v5, v6] st I J Q = Rn S 92 37 [.ref q, v1, v2, v3, v4, v5, v6] (.ref q :: st) I J Q := rL f92_36 rfl rfl
theorem x92_37 : Rn S 92 37 [v0, v1, v2, .int a, v4, v5, v6] st I J Q = Rn S 92 38 [v0, v1, v2, .int a, v4, v5, v6] (.int a :: st) I J Q := rL f92_37 rfl rfl
theorem x92_38 : Rn S 92 38 [v0, .int a, v2, v3, v4, v5, v6] st I J Q = Rn S 92 39 [v0, .int a, v2, v3, v4, v5, v6] (.int a :: st) I J Q := rL f92_38 rfl rfl
theorem x92_39 : Rn S 92 39 [v0, v1, v2, v3, v4, v5, v6] (.int a1 :: .int a0 :: .ref q :: st) I J Q = ((zcls S q = 5 ∧ zcs st ≤ 8) ∧ Rn S 93 0 [.ref q, .int a0, .int a1, .null, .null, .null] [] I J (fun v I' J' => Rn S 92 42 [v0, v1, v2, v3, v4, v5, v6] (v.toList ++ st) I' J' Q)) := rCV (As := [.int a0, .int a1]) f92_39 rfl rfl rfl rfl (Nat.le_of_ble_eq_true rfl)
theorem x92_42 : Rn S 92 42 [v0, v1, v2, v3, v4, v5, v6] (.long u :: st) I J Q = Rn S 92 44 [v0, v1, v2, zkl v3, .long u, .null, v6] st I J Q := rL f92_42 rfl rfl
theorem x92_44 : Rn S 92 44 [v0, v1, v2, v3, .long u, v5, v6] st I J Q = Rn S 92 46 [v0, v1, v2, v3, .long u, v5, v6] (.long u :: st) I J Q := rL f92_44 rfl rfl
theorem x92_46 : Rn S 92 46 [v0, v1, v2, v3, v4, v5, v6] st I J Q = Rn S 92 47 [v0, v1, v2, v3, v4, v5, v6] (.long 0 :: st) I J Q := rS f92_46 rfl
theorem x92_47 : Rn S 92 47 [v0, v1, v2, v3, v4, v5, v6] (.long w :: .long u :: st) I J Q = Rn S 92 48 [v0, v1, v2, v3, v4, v5, v6] (.int (lg_cmp u w) :: st) I J Q := rS f92_47 rfl
theorem x92_48 : Rn S 92 48 [v0, v1, v2, v3, v4, v5, v6] (.int a :: st) I J Q = if a = 0 then Rn S 92 51 [v0, v1, v2, v3, v4, v5, v6] st I J Q else Rn S 92 54 [v0, v1, v2, v3, v4, v5, v6] st I J Q := rIne f92_48 rfl rfl
theorem x92_51 : Rn S 92 51 [v0, v1, v2, v3, v4, v5, v6] st I J Q = Rn S 92 120 [v0, v1, v2, v3, v4, v5, v6] st I J Q := rB f92_51 rfl rfl rfl
theorem x92_54 : Rn S 92 54 [.ref q, v1, v2, v3, v4, v5, v6] st I J Q = Rn S 92 55 [.ref q, v1, v2, v3, v4, v5, v6] (.ref q :: st) I J Q := rL f92_54 rfl rfl
theorem x92_55_0 : Rn (zG xl) 92 55 [v0, v1, v2, v3, v4, v5, v6] (.ref 0 :: st) I J Q = Rn (zG xl) 92 58 [v0, v1, v2, v3, v4, v5, v6] (.ref 28 :: st) I J Q := (rGf f92_55 rfl).trans (tr_and rfl)
theorem x92_58 : Rn S 92 58 [v0, v1, v2, .int a, v4, v5, v6] st I J Q = Rn S 92 59 [v0, v1, v2, .int a, v4, v5, v6] (.int a :: st) I J Q := rL f92_58 rfl rfl
theorem x92_59_8 : Rn (zG xl) 92 59 [v0, v1, v2, v3, v4, v5, v6] (.int a :: .ref 8 :: st) I J Q = Rn (zG xl) 92 62 [v0, v1, v2, v3, v4, v5, v6] st (zr I 8 (upd (I 8) 13 a)) J Q := (rPf f92_59 rfl).trans (tr_pf rfl rfl rfl)
theorem x92_59_28 : Rn (zG xl) 92 59 [v0, v1, v2, v3, v4, v5, v6] (.int a :: .ref 28 :: st) I J Q = Rn (zG xl) 92 62 [v0, v1, v2, v3, v4, v5, v6] st (zr I 28 (upd (I 28) 13 a)) J Q := (rPf f92_59 rfl).trans (tr_pf rfl rfl rfl)
theorem x92_62 : Rn S 92 62 [.ref q, v1, v2, v3, v4, v5, v6] st I J Q = Rn S 92 63 [.ref q, v1, v2, v3, v4, v5, v6] (.ref q :: st) I J Q := rL f92_62 rfl rfl
theorem x92_63_0 : Rn (zG xl) 92 63 [v0, v1, v2, v3, v4, v5, v6] (.ref 0 :: st) I J Q = Rn (zG xl) 92 66 [v0, v1, v2, v3, v4, v5, v6] (.ref 38 :: st) I J Q := (rGf f92_63 rfl).trans (tr_and rfl)
theorem x92_66 : Rn S 92 66 [.ref q, v1, v2, v3, v4, v5, v6] st I J Q = Rn S 92 67 [.ref q, v1, v2, v3, v4, v5, v6] (.ref q :: st) I J Q := rL f92_66 rfl rfl
theorem x92_67_0 : Rn (zG xl) 92 67 [v0, v1, v2, v3, v4, v5, v6] (.ref 0 :: st) I J Q = Rn (zG xl) 92 70 [v0, v1, v2, v3, v4, v5, v6] (.ref 28 :: st) I J Q := (rGf f92_67 rfl).trans (tr_and rfl)
theorem x92_70 : Rn S 92 70 [v0, v1, v2, v3, v4, v5, v6] (.ref q0 :: .ref q :: st) I J Q = ((zcls S q = 0 ∧ zcs st ≤ 8) ∧ Rn S 1 0 [.ref q, .ref q0, .null, .null] [] I J (fun v I' J' => Rn S 92 73 [v0, v1, v2, v3, v4, v5, v6] (v.toList ++ st) I' J' Q)) := rCV (As := [.ref q0]) f92_70 rfl rfl rfl rfl (Nat.le_of_ble_eq_true rfl)
theorem x92_73 : Rn S 92 73 [v0, v1, v2, v3, v4, v5, v6] st I J Q = Rn S 92 74 [v0, v1, v2, v3, v4, v5, v6] (.int 0 :: st) I J Q := rS f92_73 rfl
theorem x92_74 : Rn S 92 74 [v0, v1, v2, v3, v4, v5, v6] (.int a :: st) I J Q = Rn S 92 76 [v0, v1, v2, v3, v4, zkl v5, .int a] st I J Q := rL f92_74 rfl rfl
theorem h92_76 : Rn S 92 76 [v0, v1, v2, v3, v4, v5, .int a] st I J Q = Rn S 92 78 [v0, v1, v2, v3, v4, v5, .int a] (.int a :: st) I J Q := rL f92_76 rfl rfl
theorem x92_78 : Rn S 92 78 [.ref q, v1, v2, v3, v4, v5, v6] st I J Q = Rn S 92 79 [.ref q, v1, v2, v3, v4, v5, v6] (.ref q :: st) I J Q := rL f92_78 rfl rfl
theorem x92_79_0 : Rn (zG xl) 92 79 [v0, v1, v2, v3, v4, v5, v6] (.ref 0 :: st) I J Q = Rn (zG xl) 92 82 [v0, v1, v2, v3, v4, v5, v6] (.ref 8 :: st) I J Q := (rGf f92_79 rfl).trans (tr_and rfl)
theorem x92_82_8 : Rn (zG xl) 92 82 [v0, v1, v2, v3, v4, v5, v6] (.ref 8 :: st) I J Q = Rn (zG xl) 92 85 [v0, v1, v2, v3, v4, v5, v6] (.int (I 8 0) :: st) I J Q := (rGf f92_82 rfl).trans (tr_and rfl)
theorem x92_82_28 : Rn (zG xl) 92 82 [v0, v1, v2, v3, v4, v5, v6] (.ref 28 :: st) I J Q = Rn (zG xl) 92 85 [v0, v1, v2, v3, v4, v5, v6] (.int (I 28 0) :: st) I J Q := (rGf f92_82 rfl).trans (tr_and rfl)
theorem x92_85 : Rn S 92 85 [v0, v1, v2, v3, v4, v5, v6] (.int b :: .int a :: st) I J Q = if a < b then Rn S 92 88 [v0, v1, v2, v3, v4, v5, v6] st I J Q else Rn S 92 120 [v0, v1, v2, v3, v4, v5, v6] st I J Q := rCge f92_85 rfl rfl
theorem x92_88 : Rn S 92 88 [.ref q, v1, v2, v3, v4, v5, v6] st I J Q = Rn S 92 89 [.ref q, v1, v2, v3, v4, v5, v6] (.ref q :: st) I J Q := rL f92_88 rfl rfl
theorem x92_89_0 : Rn (zG xl) 92 89 [v0, v1, v2, v3, v4, v5, v6] (.ref 0 :: st) I J Q = Rn (zG xl) 92 92 [v0, v1, v2, v3, v4, v5, v6] (.ref 38 :: st) I J Q := (rGf f92_89 rfl).trans (tr_and rfl)
theorem x92_92_18 : Rn (zG xl) 92 92 [v0, v1, v2, v3, v4, v5, v6] (.ref 18 :: st) I J Q = Rn (zG xl) 92 95 [v0, v1, v2, v3, v4, v5, v6] (.ref 19 :: st) I J Q := (rGf f92_92 rfl).trans (tr_and rfl)
theorem x92_92_38 : Rn (zG xl) 92 92 [v0, v1, v2, v3, v4, v5, v6] (.ref 38 :: st) I J Q = Rn (zG xl) 92 95 [v0, v1, v2, v3, v4, v5, v6] (.ref 39 :: st) I J Q := (rGf f92_92 rfl).trans (tr_and rfl)
theorem x92_95 : Rn S 92 95 [v0, v1, v2, v3, v4, v5, .int a] st I J Q = Rn S 92 97 [v0, v1, v2, v3, v4, v5, .int a] (.int a :: st) I J Q := rL f92_95 rfl rfl
theorem x92_97 : Rn S 92 97 [v0, v1, v2, v3, v4, v5, v6] (.int a :: .ref q :: st) I J Q = (zai S q a ∧ Rn S 92 98 [v0, v1, v2, v3, v4, v5, v6] (.int (I q a.toNatClampNeg) :: st) I J Q) := rIal f92_97
theorem x92_98 : Rn S 92 98 [v0, v1, v2, v3, v4, v5, v6] st I J Q = Rn S 92 99 [v0, v1, v2, v3, v4, v5, v6] (.int (-1) :: st) I J Q := rS f92_98 rfl
theorem x92_99 : Rn S 92 99 [v0, v1, v2, v3, v4, v5, v6] (.int b :: .int a :: st) I J Q = if a = b then Rn S 92 114 [v0, v1, v2, v3, v4, v5, v6] st I J Q else Rn S 92 102 [v0, v1, v2, v3, v4, v5, v6] st I J Q := rCeq f92_99 rfl rfl
theorem x92_102 : Rn S 92 102 [.ref q, v1, v2, v3, v4, v5, v6] st I J Q = Rn S 92 103 [.ref q, v1, v2, v3, v4, v5, v6] (.ref q :: st) I J Q := rL f92_102 rfl rfl
theorem x92_103_0 : Rn (zG xl) 92 103 [v0, v1, v2, v3, v4, v5, v6] (.ref 0 :: st) I J Q = Rn (zG xl) 92 106 [v0, v1, v2, v3, v4, v5, v6] (.ref 64 :: st) I J Q := (rGf f92_103 rfl).trans (tr_and rfl)
theorem x92_106 : Rn S 92 106 [v0, v1, v2, v3, v4, v5, .int a] st I J Q = Rn S 92 108 [v0, v1, v2, v3, v4, v5, .int a] (.int a :: st) I J Q := rL f92_106 rfl rfl
theorem x92_108 : Rn S 92 108 [v0, v1, v2, v3, v4, v5, v6] (.int a :: .ref q :: st) I J Q = Rn S 92 109 [v0, v1, v2, v3, v4, v5, v6] (.int a :: .ref q :: .int a :: .ref q :: st) I J Q := rS f92_108 rfl
theorem x92_109 : Rn S 92 109 [v0, v1, v2, v3, v4, v5, v6] (.int a :: .ref q :: st) I J Q = (zaj S q a ∧ Rn S 92 110 [v0, v1, v2, v3, v4, v5, v6] (.long (J q a.toNatClampNeg) :: st) I J Q) := rLal f92_109
theorem x92_110 : Rn S 92 110 [v0, v1, v2, v3, .long u, v5, v6] st I J Q = Rn S 92 112 [v0, v1, v2, v3, .long u, v5, v6] (.long u :: st) I J Q := rL f92_110 rfl rfl
theorem x92_112 : Rn S 92 112 [v0, v1, v2, v3, v4, v5, v6] (.long w :: .long u :: st) I J Q = Rn S 92 113 [v0, v1, v2, v3, v4, v5, v6] (.long (u + w) :: st) I J Q := rS f92_112 rfl
theorem x92_113 : Rn S 92 113 [v0, v1, v2, v3, v4, v5, v6] (.long u :: .int a :: .ref q :: st) I J Q = (zaj S q a ∧ Rn S 92 114 [v0, v1, v2, v3, v4, v5, v6] st I (zr J q (vp_updL (J q) a.toNatClampNeg u)) Q) := rLas f92_113
theorem x92_114 : Rn S 92 114 [v0, v1, v2, v3, v4, v5, .int a] st I J Q = Rn S 92 117 [v0, v1, v2, v3, v4, zkl v5, .int (a + 1)] st I J Q := rL f92_114 rfl rfl
theorem x92_117 : Rn S 92 117 [v0, v1, v2, v3, v4, v5, v6] st I J Q = Rn S 92 76 [v0, v1, v2, v3, v4, v5, v6] st I J Q := rB f92_117 rfl rfl rfl
theorem x92_120 : Rn S 92 120 [v0, v1, v2, .int a, v4, v5, v6] st I J Q = Rn S 92 123 [v0, v1, zkl v2, .int (a + 1), v4, v5, v6] st I J Q := rL f92_120 rfl rfl
theorem x92_123 : Rn S 92 123 [v0, v1, v2, v3, v4, v5, v6] st I J Q = Rn S 92 31 [v0, v1, v2, v3, v4, v5, v6] st I J Q := rB f92_123 rfl rfl rfl
theorem x92_126 : Rn S 92 126 [v0, v1, v2, v3, v4, v5, v6] [] I J Q = Q none I J := rR f92_126 rfl rfl rfl rfl rfl
/-! X5.weightOf: 93 -/
theorem B93 : zB 93 = cX5_weightOf := rfl
theorem f93_0 : zft 93 0 = some (.lconst 1, 1) := fet B93 (by decide +kernel) (Or.inr rfl)
theorem f93_1 : zft 93 1 = some (.lstore_n 3, 1) := fet B93 (by decide +kernel) (Or.inr rfl)
theorem f93_2 : zft 93 2 = some (.iconst 0, 1) := fet B93 (by decide +kernel) (Or.inr rfl)
theorem f93_3 : zft 93 3 = some (.istore 5, 2) := fet B93 (by decide +kernel) (Or.inr rfl)
theorem f93_5 : zft 93 5 = some (.iload 5, 2) := fet B93 (by decide +kernel) (Or.inr rfl)
theorem f93_7 : zft 93 7 = some (.aload_n 0, 1) := fet B93 (by decide +kernel) (Or.inr rfl)
theorem f93_8 : zft 93 8 = some (.getfield 27, 3) := fet B93 (by decide +kernel) (Or.inr rfl)
theorem f93_11 : zft 93 11 = some (.getfield 131, 3) := fet B93 (by decide +kernel) (Or.inr rfl)
theorem f93_14 : zft 93 14 = some (.if_icmp .ge 32, 3) := fet B93 (by decide +kernel) (Or.inr rfl)
theorem f93_17 : zft 93 17 = some (.lload_n 3, 1) := fet B93 (by decide +kernel) (Or.inr rfl)
theorem f93_18 : zft 93 18 = some (.iload_n 1, 1) := fet B93 (by decide +kernel) (Or.inr rfl)
theorem f93_19 : zft 93 19 = some (.iload 5, 2) := fet B93 (by decide +kernel) (Or.inr rfl)
theorem f93_21 : zft 93 21 = some (.ishr, 1) := fet B93 (by decide +kernel) (Or.inr rfl)
theorem f93_22 : zft 93 22 = some (.iconst 1, 1) := fet B93 (by decide +kernel) (Or.inr rfl)
theorem f93_23 : zft 93 23 = some (.iand, 1) := fet B93 (by decide +kernel) (Or.inr rfl)
theorem f93_24 : zft 93 24 = some (.iconst 1, 1) := fet B93 (by decide +kernel) (Or.inr rfl)
theorem f93_25 : zft 93 25 = some (.if_icmp .ne 11, 3) := fet B93 (by decide +kernel) (Or.inr rfl)
theorem f93_28 : zft 93 28 = some (.bipush 16, 2) := fet B93 (by decide +kernel) (Or.inr rfl)
theorem f93_30 : zft 93 30 = some (.iload_n 2, 1) := fet B93 (by decide +kernel) (Or.inr rfl)
theorem f93_31 : zft 93 31 = some (.isub, 1) := fet B93 (by decide +kernel) (Or.inr rfl)
theorem f93_32 : zft 93 32 = some (.i2l, 1) := fet B93 (by decide +kernel) (Or.inr rfl)
theorem f93_33 : zft 93 33 = some (.goto 5, 3) := fet B93 (by decide +kernel) (Or.inr rfl)
theorem f93_36 : zft 93 36 = some (.iload_n 2, 1) := fet B93 (by decide +kernel) (Or.inr rfl)
theorem f93_37 : zft 93 37 = some (.i2l, 1) := fet B93 (by decide +kernel) (Or.inr rfl)
theorem f93_38 : zft 93 38 = some (.lmul, 1) := fet B93 (by decide +kernel) (Or.inr rfl)
theorem f93_39 : zft 93 39 = some (.lstore_n 3, 1) := fet B93 (by decide +kernel) (Or.inr rfl)
theorem f93_40 : zft 93 40 = some (.iinc 5 1, 3) := fet B93 (by decide +kernel) (Or.inr rfl)
theorem f93_43 : zft 93 43 = some (.goto (-38), 3) := fet B93 (by decide +kernel) (Or.inr rfl)
theorem f93_46 : zft 93 46 = some (.lload_n 3, 1) := fet B93 (by decide +kernel) (Or.inr rfl)
theorem f93_47 : zft 93 47 = some (.lreturn, 1) := fet B93 (by decide +kernel) (Or.inr rfl)
theorem x93_0 : Rn S 93 0 [v0, v1, v2, v3, v4, v5] st I J Q = Rn S 93 1 [v0, v1, v2, v3, v4, v5] (.long 1 :: st) I J Q := rS f93_0 rfl
theorem x93_1 : Rn S 93 1 [v0, v1, v2, v3, v4, v5] (.long u :: st) I J Q = Rn S 93 2 [v0, v1, zkl v2, .long u, .null, v5] st I J Q := rL f93_1 rfl rfl
theorem x93_2 : Rn S 93 2 [v0, v1, v2, v3, v4, v5] st I J Q = Rn S 93 3 [v0, v1, v2, v3, v4, v5] (.int 0 :: st) I J Q := rS f93_2 rfl
theorem x93_3 : Rn S 93 3 [v0, v1, v2, v3, v4, v5] (.int a :: st) I J Q = Rn S 93 5 [v0, v1, v2, v3, zkl v4, .int a] st I J Q := rL f93_3 rfl rfl
theorem h93_5 : Rn S 93 5 [v0, v1, v2, v3, v4, .int a] st I J Q = Rn S 93 7 [v0, v1, v2, v3, v4, .int a] (.int a :: st) I J Q := rL f93_5 rfl rfl
theorem x93_7 : Rn S 93 7 [.ref q, v1, v2, v3, v4, v5] st I J Q = Rn S 93 8 [.ref q, v1, v2, v3, v4, v5] (.ref q :: st) I J Q := rL f93_7 rfl rfl
theorem x93_8_0 : Rn (zG xl) 93 8 [v0, v1, v2, v3, v4, v5] (.ref 0 :: st) I J Q = Rn (zG xl) 93 11 [v0, v1, v2, v3, v4, v5] (.ref 8 :: st) I J Q := (rGf f93_8 rfl).trans (tr_and rfl)
theorem x93_11_8 : Rn (zG xl) 93 11 [v0, v1, v2, v3, v4, v5] (.ref 8 :: st) I J Q = Rn (zG xl) 93 14 [v0, v1, v2, v3, v4, v5] (.int (I 8 9) :: st) I J Q := (rGf f93_11 rfl).trans (tr_and rfl)
theorem x93_11_28 : Rn (zG xl) 93 11 [v0, v1, v2, v3, v4, v5] (.ref 28 :: st) I J Q = Rn (zG xl) 93 14 [v0, v1, v2, v3, v4, v5] (.int (I 28 9) :: st) I J Q := (rGf f93_11 rfl).trans (tr_and rfl)
theorem x93_14 : Rn S 93 14 [v0, v1, v2, v3, v4, v5] (.int b :: .int a :: st) I J Q = if a < b then Rn S 93 17 [v0, v1, v2, v3, v4, v5] st I J Q else Rn S 93 46 [v0, v1, v2, v3, v4, v5] st I J Q := rCge f93_14 rfl rfl
theorem x93_17 : Rn S 93 17 [v0, v1, v2, .long u, v4, v5] st I J Q = Rn S 93 18 [v0, v1, v2, .long u, v4, v5] (.long u :: st) I J Q := rL f93_17 rfl rfl
theorem x93_18 : Rn S 93 18 [v0, .int a, v2, v3, v4, v5] st I J Q = Rn S 93 19 [v0, .int a, v2, v3, v4, v5] (.int a :: st) I J Q := rL f93_18 rfl rfl
theorem x93_19 : Rn S 93 19 [v0, v1, v2, v3, v4, .int a] st I J Q = Rn S 93 21 [v0, v1, v2, v3, v4, .int a] (.int a :: st) I J Q := rL f93_19 rfl rfl
theorem x93_21 : Rn S 93 21 [v0, v1, v2, v3, v4, v5] (.int b :: .int a :: st) I J Q = Rn S 93 22 [v0, v1, v2, v3, v4, v5] (.int (a >>> (b &&& 31)) :: st) I J Q := rS f93_21 rfl
theorem x93_22 : Rn S 93 22 [v0, v1, v2, v3, v4, v5] st I J Q = Rn S 93 23 [v0, v1, v2, v3, v4, v5] (.int 1 :: st) I J Q := rS f93_22 rfl
theorem x93_23 : Rn S 93 23 [v0, v1, v2, v3, v4, v5] (.int b :: .int a :: st) I J Q = Rn S 93 24 [v0, v1, v2, v3, v4, v5] (.int (a &&& b) :: st) I J Q := rS f93_23 rfl
theorem x93_24 : Rn S 93 24 [v0, v1, v2, v3, v4, v5] st I J Q = Rn S 93 25 [v0, v1, v2, v3, v4, v5] (.int 1 :: st) I J Q := rS f93_24 rfl
theorem x93_25 : Rn S 93 25 [v0, v1, v2, v3, v4, v5] (.int b :: .int a :: st) I J Q = if a = b then Rn S 93 28 [v0, v1, v2, v3, v4, v5] st I J Q else Rn S 93 36 [v0, v1, v2, v3, v4, v5] st I J Q := rCne f93_25 rfl rfl
theorem x93_28 : Rn S 93 28 [v0, v1, v2, v3, v4, v5] st I J Q = Rn S 93 30 [v0, v1, v2, v3, v4, v5] (.int 16 :: st) I J Q := rS f93_28 rfl
theorem x93_30 : Rn S 93 30 [v0, v1, .int a, v3, v4, v5] st I J Q = Rn S 93 31 [v0, v1, .int a, v3, v4, v5] (.int a :: st) I J Q := rL f93_30 rfl rfl
theorem x93_31 : Rn S 93 31 [v0, v1, v2, v3, v4, v5] (.int b :: .int a :: st) I J Q = Rn S 93 32 [v0, v1, v2, v3, v4, v5] (.int (a - b) :: st) I J Q := rS f93_31 rfl
theorem x93_32 : Rn S 93 32 [v0, v1, v2, v3, v4, v5] (.int a :: st) I J Q = Rn S 93 33 [v0, v1, v2, v3, v4, v5] (.long a.toInt64 :: st) I J Q := rS f93_32 rfl
theorem x93_33 : Rn S 93 33 [v0, v1, v2, v3, v4, v5] st I J Q = Rn S 93 38 [v0, v1, v2, v3, v4, v5] st I J Q := rB f93_33 rfl rfl rfl
theorem x93_36 : Rn S 93 36 [v0, v1, .int a, v3, v4, v5] st I J Q = Rn S 93 37 [v0, v1, .int a, v3, v4, v5] (.int a :: st) I J Q := rL f93_36 rfl rfl
theorem x93_37 : Rn S 93 37 [v0, v1, v2, v3, v4, v5] (.int a :: st) I J Q = Rn S 93 38 [v0, v1, v2, v3, v4, v5] (.long a.toInt64 :: st) I J Q := rS f93_37 rfl
theorem x93_38 : Rn S 93 38 [v0, v1, v2, v3, v4, v5] (.long w :: .long u :: st) I J Q = Rn S 93 39 [v0, v1, v2, v3, v4, v5] (.long (u * w) :: st) I J Q := rS f93_38 rfl
theorem x93_39 : Rn S 93 39 [v0, v1, v2, v3, v4, v5] (.long u :: st) I J Q = Rn S 93 40 [v0, v1, zkl v2, .long u, .null, v5] st I J Q := rL f93_39 rfl rfl
theorem x93_40 : Rn S 93 40 [v0, v1, v2, v3, v4, .int a] st I J Q = Rn S 93 43 [v0, v1, v2, v3, zkl v4, .int (a + 1)] st I J Q := rL f93_40 rfl rfl
theorem x93_43 : Rn S 93 43 [v0, v1, v2, v3, v4, v5] st I J Q = Rn S 93 5 [v0, v1, v2, v3, v4, v5] st I J Q := rB f93_43 rfl rfl rfl
theorem x93_46 : Rn S 93 46 [v0, v1, v2, .long u, v4, v5] st I J Q = Rn S 93 47 [v0, v1, v2, .long u, v4, v5] (.long u :: st) I J Q := rL f93_46 rfl rfl
theorem x93_47 : Rn S 93 47 [v0, v1, v2, v3, v4, v5] [.long u] I J Q = Q (some (.long u)) I J := rR f93_47 rfl rfl rfl rfl rfl
/-! X5.lowestTerm: 94 -/
theorem B94 : zB 94 = cX5_lowestTerm := rfl
theorem f94_0 : zft 94 0 = some (.iconst 4, 1) := fet B94 (by decide +kernel) (Or.inr rfl)
theorem f94_1 : zft 94 1 = some (.aload_n 0, 1) := fet B94 (by decide +kernel) (Or.inr rfl)
theorem f94_2 : zft 94 2 = some (.getfield 27, 3) := fet B94 (by decide +kernel) (Or.inr rfl)
theorem f94_5 : zft 94 5 = some (.getfield 131, 3) := fet B94 (by decide +kernel) (Or.inr rfl)
theorem f94_8 : zft 94 8 = some (.imul, 1) := fet B94 (by decide +kernel) (Or.inr rfl)
theorem f94_9 : zft 94 9 = some (.istore_n 3, 1) := fet B94 (by decide +kernel) (Or.inr rfl)
theorem f94_10 : zft 94 10 = some (.aload_n 0, 1) := fet B94 (by decide +kernel) (Or.inr rfl)
theorem f94_11 : zft 94 11 = some (.getfield 68, 3) := fet B94 (by decide +kernel) (Or.inr rfl)
theorem f94_14 : zft 94 14 = some (.iload_n 1, 1) := fet B94 (by decide +kernel) (Or.inr rfl)
theorem f94_15 : zft 94 15 = some (.laload, 1) := fet B94 (by decide +kernel) (Or.inr rfl)
theorem f94_16 : zft 94 16 = some (.lstore 4, 2) := fet B94 (by decide +kernel) (Or.inr rfl)
theorem f94_18 : zft 94 18 = some (.lconst 1, 1) := fet B94 (by decide +kernel) (Or.inr rfl)
theorem f94_19 : zft 94 19 = some (.iload_n 3, 1) := fet B94 (by decide +kernel) (Or.inr rfl)
theorem f94_20 : zft 94 20 = some (.lshl, 1) := fet B94 (by decide +kernel) (Or.inr rfl)
theorem f94_21 : zft 94 21 = some (.lstore 6, 2) := fet B94 (by decide +kernel) (Or.inr rfl)
theorem f94_23 : zft 94 23 = some (.iconst 0, 1) := fet B94 (by decide +kernel) (Or.inr rfl)
theorem f94_24 : zft 94 24 = some (.istore 8, 2) := fet B94 (by decide +kernel) (Or.inr rfl)
theorem f94_26 : zft 94 26 = some (.iload 8, 2) := fet B94 (by decide +kernel) (Or.inr rfl)
theorem f94_28 : zft 94 28 = some (.iload_n 3, 1) := fet B94 (by decide +kernel) (Or.inr rfl)
theorem f94_29 : zft 94 29 = some (.if_icmp .ge 36, 3) := fet B94 (by decide +kernel) (Or.inr rfl)
theorem f94_32 : zft 94 32 = some (.lload 4, 2) := fet B94 (by decide +kernel) (Or.inr rfl)
theorem f94_34 : zft 94 34 = some (.ldc2_w 378, 3) := fet B94 (by decide +kernel) (Or.inr rfl)
theorem f94_37 : zft 94 37 = some (.lrem, 1) := fet B94 (by decide +kernel) (Or.inr rfl)
theorem f94_38 : zft 94 38 = some (.lconst 0, 1) := fet B94 (by decide +kernel) (Or.inr rfl)
theorem f94_39 : zft 94 39 = some (.lcmp, 1) := fet B94 (by decide +kernel) (Or.inr rfl)
theorem f94_40 : zft 94 40 = some (.ifCond .ne 19, 3) := fet B94 (by decide +kernel) (Or.inr rfl)
theorem f94_43 : zft 94 43 = some (.lload 4, 2) := fet B94 (by decide +kernel) (Or.inr rfl)
theorem f94_45 : zft 94 45 = some (.ldc2_w 378, 3) := fet B94 (by decide +kernel) (Or.inr rfl)
theorem f94_48 : zft 94 48 = some (.ldiv, 1) := fet B94 (by decide +kernel) (Or.inr rfl)
theorem f94_49 : zft 94 49 = some (.lstore 4, 2) := fet B94 (by decide +kernel) (Or.inr rfl)
theorem f94_51 : zft 94 51 = some (.lload 6, 2) := fet B94 (by decide +kernel) (Or.inr rfl)
theorem f94_53 : zft 94 53 = some (.ldc2_w 378, 3) := fet B94 (by decide +kernel) (Or.inr rfl)
theorem f94_56 : zft 94 56 = some (.ldiv, 1) := fet B94 (by decide +kernel) (Or.inr rfl)
theorem f94_57 : zft 94 57 = some (.lstore 6, 2) := fet B94 (by decide +kernel) (Or.inr rfl)
theorem f94_59 : zft 94 59 = some (.iinc 8 1, 3) := fet B94 (by decide +kernel) (Or.inr rfl)
theorem f94_62 : zft 94 62 = some (.goto (-36), 3) := fet B94 (by decide +kernel) (Or.inr rfl)
theorem f94_65 : zft 94 65 = some (.iload_n 2, 1) := fet B94 (by decide +kernel) (Or.inr rfl)
theorem f94_66 : zft 94 66 = some (.ifCond .ne 8, 3) := fet B94 (by decide +kernel) (Or.inr rfl)
theorem f94_69 : zft 94 69 = some (.lload 4, 2) := fet B94 (by decide +kernel) (Or.inr rfl)
theorem f94_71 : zft 94 71 = some (.goto 5, 3) := fet B94 (by decide +kernel) (Or.inr rfl)
theorem f94_74 : zft 94 74 = some (.lload 6, 2) := fet B94 (by decide +kernel) (Or.inr rfl)
theorem f94_76 : zft 94 76 = some (.lreturn, 1) := fet B94 (by decide +kernel) (Or.inr rfl)
theorem x94_0 : Rn S 94 0 [v0, v1, v2, v3, v4, v5, v6, v7, v8] st I J Q = Rn S 94 1 [v0, v1, v2, v3, v4, v5, v6, v7, v8] (.int 4 :: st) I J Q := rS f94_0 rfl
theorem x94_1 : Rn S 94 1 [.ref q, v1, v2, v3, v4, v5, v6, v7, v8] st I J Q = Rn S 94 2 [.ref q, v1, v2, v3, v4, v5, v6, v7, v8] (.ref q :: st) I J Q := rL f94_1 rfl rfl
theorem x94_2_0 : Rn (zG xl) 94 2 [v0, v1, v2, v3, v4, v5, v6, v7, v8] (.ref 0 :: st) I J Q = Rn (zG xl) 94 5 [v0, v1, v2, v3, v4, v5, v6, v7, v8] (.ref 8 :: st) I J Q := (rGf f94_2 rfl).trans (tr_and rfl)
theorem x94_5_8 : Rn (zG xl) 94 5 [v0, v1, v2, v3, v4, v5, v6, v7, v8] (.ref 8 :: st) I J Q = Rn (zG xl) 94 8 [v0, v1, v2, v3, v4, v5, v6, v7, v8] (.int (I 8 9) :: st) I J Q := (rGf f94_5 rfl).trans (tr_and rfl)
theorem x94_5_28 : Rn (zG xl) 94 5 [v0, v1, v2, v3, v4, v5, v6, v7, v8] (.ref 28 :: st) I J Q = Rn (zG xl) 94 8 [v0, v1, v2, v3, v4, v5, v6, v7, v8] (.int (I 28 9) :: st) I J Q := (rGf f94_5 rfl).trans (tr_and rfl)
theorem x94_8 : Rn S 94 8 [v0, v1, v2, v3, v4, v5, v6, v7, v8] (.int b :: .int a :: st) I J Q = Rn S 94 9 [v0, v1, v2, v3, v4, v5, v6, v7, v8] (.int (a * b) :: st) I J Q := rS f94_8 rfl
theorem x94_9 : Rn S 94 9 [v0, v1, v2, v3, v4, v5, v6, v7, v8] (.int a :: st) I J Q = Rn S 94 10 [v0, v1, zkl v2, .int a, v4, v5, v6, v7, v8] st I J Q := rL f94_9 rfl rfl
theorem x94_10 : Rn S 94 10 [.ref q, v1, v2, v3, v4, v5, v6, v7, v8] st I J Q = Rn S 94 11 [.ref q, v1, v2, v3, v4, v5, v6, v7, v8] (.ref q :: st) I J Q := rL f94_10 rfl rfl
theorem x94_11_0 : Rn (zG xl) 94 11 [v0, v1, v2, v3, v4, v5, v6, v7, v8] (.ref 0 :: st) I J Q = Rn (zG xl) 94 14 [v0, v1, v2, v3, v4, v5, v6, v7, v8] (.ref 64 :: st) I J Q := (rGf f94_11 rfl).trans (tr_and rfl)
theorem x94_14 : Rn S 94 14 [v0, .int a, v2, v3, v4, v5, v6, v7, v8] st I J Q = Rn S 94 15 [v0, .int a, v2, v3, v4, v5, v6, v7, v8] (.int a :: st) I J Q := rL f94_14 rfl rfl
theorem x94_15 : Rn S 94 15 [v0, v1, v2, v3, v4, v5, v6, v7, v8] (.int a :: .ref q :: st) I J Q = (zaj S q a ∧ Rn S 94 16 [v0, v1, v2, v3, v4, v5, v6, v7, v8] (.long (J q a.toNatClampNeg) :: st) I J Q) := rLal f94_15
theorem x94_16 : Rn S 94 16 [v0, v1, v2, v3, v4, v5, v6, v7, v8] (.long u :: st) I J Q = Rn S 94 18 [v0, v1, v2, zkl v3, .long u, .null, v6, v7, v8] st I J Q := rL f94_16 rfl rfl
theorem x94_18 : Rn S 94 18 [v0, v1, v2, v3, v4, v5, v6, v7, v8] st I J Q = Rn S 94 19 [v0, v1, v2, v3, v4, v5, v6, v7, v8] (.long 1 :: st) I J Q := rS f94_18 rfl
theorem x94_19 : Rn S 94 19 [v0, v1, v2, .int a, v4, v5, v6, v7, v8] st I J Q = Rn S 94 20 [v0, v1, v2, .int a, v4, v5, v6, v7, v8] (.int a :: st) I J Q := rL f94_19 rfl rfl
theorem x94_20 : Rn S 94 20 [v0, v1, v2, v3, v4, v5, v6, v7, v8] (.int b :: .long u :: st) I J Q = Rn S 94 21 [v0, v1, v2, v3, v4, v5, v6, v7, v8] (.long (u <<< (b.toInt64 &&& 63)) :: st) I J Q := rS f94_20 rfl
theorem x94_21 : Rn S 94 21 [v0, v1, v2, v3, v4, v5, v6, v7, v8] (.long u :: st) I J Q = Rn S 94 23 [v0, v1, v2, v3, v4, zkl v5, .long u, .null, v8] st I J Q := rL f94_21 rfl rfl
theorem x94_23 : Rn S 94 23 [v0, v1, v2, v3, v4, v5, v6, v7, v8] st I J Q = Rn S 94 24 [v0, v1, v2, v3, v4, v5, v6, v7, v8] (.int 0 :: st) I J Q := rS f94_23 rfl
theorem x94_24 : Rn S 94 24 [v0, v1, v2, v3, v4, v5, v6, v7, v8] (.int a :: st) I J Q = Rn S 94 26 [v0, v1, v2, v3, v4, v5, v6, zkl v7, .int a] st I J Q := rL f94_24 rfl rfl
theorem h94_26 : Rn S 94 26 [v0, v1, v2, v3, v4, v5, v6, v7, .int a] st I J Q = Rn S 94 28 [v0, v1, v2, v3, v4, v5, v6, v7, .int a] (.int a :: st) I J Q := rL f94_26 rfl rfl
theorem x94_28 : Rn S 94 28 [v0, v1, v2, .int a, v4, v5, v6, v7, v8] st I J Q = Rn S 94 29 [v0, v1, v2, .int a, v4, v5, v6, v7, v8] (.int a :: st) I J Q := rL f94_28 rfl rfl
theorem x94_29 : Rn S 94 29 [v0, v1, v2, v3, v4, v5, v6, v7, v8] (.int b :: .int a :: st) I J Q = if a < b then Rn S 94 32 [v0, v1, v2, v3, v4, v5, v6, v7, v8] st I J Q else Rn S 94 65 [v0, v1, v2, v3, v4, v5, v6, v7, v8] st I J Q := rCge f94_29 rfl rfl
theorem x94_32 : Rn S 94 32 [v0, v1, v2, v3, .long u, v5, v6, v7, v8] st I J Q = Rn S 94 34 [v0, v1, v2, v3, .long u, v5, v6, v7, v8] (.long u :: st) I J Q := rL f94_32 rfl rfl
theorem x94_34 : Rn S 94 34 [v0, v1, v2, v3, v4, v5, v6, v7, v8] st I J Q = Rn S 94 37 [v0, v1, v2, v3, v4, v5, v6, v7, v8] (.long 2 :: st) I J Q := rS f94_34 rfl
theorem x94_37 : Rn S 94 37 [v0, v1, v2, v3, v4, v5, v6, v7, v8] (.long w :: .long u :: st) I J Q = (¬ w = 0 ∧ Rn S 94 38 [v0, v1, v2, v3, v4, v5, v6, v7, v8] (.long (u - u / w * w) :: st) I J Q) := rRl f94_37
theorem x94_38 : Rn S 94 38 [v0, v1, v2, v3, v4, v5, v6, v7, v8] st I J Q = Rn S 94 39 [v0, v1, v2, v3, v4, v5, v6, v7, v8] (.long 0 :: st) I J Q := rS f94_38 rfl
theorem x94_39 : Rn S 94 39 [v0, v1, v2, v3, v4, v5, v6, v7, v8] (.long w :: .long u :: st) I J Q = Rn S 94 40 [v0, v1, v2, v3, v4, v5, v6, v7, v8] (.int (lg_cmp u w) :: st) I J Q := rS f94_39 rfl
theorem x94_40 : Rn S 94 40 [v0, v1, v2, v3, v4, v5, v6, v7, v8] (.int a :: st) I J Q = if a = 0 then Rn S 94 43 [v0, v1, v2, v3, v4, v5, v6, v7, v8] st I J Q else Rn S 94 59 [v0, v1, v2, v3, v4, v5, v6, v7, v8] st I J Q := rIne f94_40 rfl rfl
theorem x94_43 : Rn S 94 43 [v0, v1, v2, v3, .long u, v5, v6, v7, v8] st I J Q = Rn S 94 45 [v0, v1, v2, v3, .long u, v5, v6, v7, v8] (.long u :: st) I J Q := rL f94_43 rfl rfl
theorem x94_45 : Rn S 94 45 [v0, v1, v2, v3, v4, v5, v6, v7, v8] st I J Q = Rn S 94 48 [v0, v1, v2, v3, v4, v5, v6, v7, v8] (.long 2 :: st) I J Q := rS f94_45 rfl
theorem x94_48 : Rn S 94 48 [v0, v1, v2, v3, v4, v5, v6, v7, v8] (.long w :: .long u :: st) I J Q = (¬ w = 0 ∧ Rn S 94 49 [v0, v1, v2, v3, v4, v5, v6, v7, v8] (.long (u / w) :: st) I J Q) := rDl f94_48
theorem x94_49 : Rn S 94 49 [v0, v1, v2, v3, v4, v5, v6, v7, v8] (.long u :: st) I J Q = Rn S 94 51 [v0, v1, v2, zkl v3, .long u, .null, v6, v7, v8] st I J Q := rL f94_49 rfl rfl
theorem x94_51 : Rn S 94 51 [v0, v1, v2, v3, v4, v5, .long u, v7, v8] st I J Q = Rn S 94 53 [v0, v1, v2, v3, v4, v5, .long u, v7, v8] (.long u :: st) I J Q := rL f94_51 rfl rfl
theorem x94_53 : Rn S 94 53 [v0, v1, v2, v3, v4, v5, v6, v7, v8] st I J Q = Rn S 94 56 [v0, v1, v2, v3, v4, v5, v6, v7, v8] (.long 2 :: st) I J Q := rS f94_53 rfl
theorem x94_56 : Rn S 94 56 [v0, v1, v2, v3, v4, v5, v6, v7, v8] (.long w :: .long u :: st) I J Q = (¬ w = 0 ∧ Rn S 94 57 [v0, v1, v2, v3, v4, v5, v6, v7, v8] (.long (u / w) :: st) I J Q) := rDl f94_56
theorem x94_57 : Rn S 94 57 [v0, v1, v2, v3, v4, v5, v6, v7, v8] (.long u :: st) I J Q = Rn S 94 59 [v0, v1, v2, v3, v4, zkl v5, .long u, .null, v8] st I J Q := rL f94_57 rfl rfl
theorem x94_59 : Rn S 94 59 [v0, v1, v2, v3, v4, v5, v6, v7, .int a] st I J Q = Rn S 94 62 [v0, v1, v2, v3, v4, v5, v6, zkl v7, .int (a + 1)] st I J Q := rL f94_59 rfl rfl
theorem x94_62 : Rn S 94 62 [v0, v1, v2, v3, v4, v5, v6, v7, v8] st I J Q = Rn S 94 26 [v0, v1, v2, v3, v4, v5, v6, v7, v8] st I J Q := rB f94_62 rfl rfl rfl
theorem x94_65 : Rn S 94 65 [v0, v1, .int a, v3, v4, v5, v6, v7, v8] st I J Q = Rn S 94 66 [v0, v1, .int a, v3, v4, v5, v6, v7, v8] (.int a :: st) I J Q := rL f94_65 rfl rfl
theorem x94_66 : Rn S 94 66 [v0, v1, v2, v3, v4, v5, v6, v7, v8] (.int a :: st) I J Q = if a = 0 then Rn S 94 69 [v0, v1, v2, v3, v4, v5, v6, v7, v8] st I J Q else Rn S 94 74 [v0, v1, v2, v3, v4, v5, v6, v7, v8] st I J Q := rIne f94_66 rfl rfl
theorem x94_69 : Rn S 94 69 [v0, v1, v2, v3, .long u, v5, v6, v7, v8] st I J Q = Rn S 94 71 [v0, v1, v2, v3, .long u, v5, v6, v7, v8] (.long u :: st) I J Q := rL f94_69 rfl rfl
theorem x94_71 : Rn S 94 71 [v0, v1, v2, v3, v4, v5, v6, v7, v8] st I J Q = Rn S 94 76 [v0, v1, v2, v3, v4, v5, v6, v7, v8] st I J Q := rB f94_71 rfl rfl rfl
theorem x94_74 : Rn S 94 74 [v0, v1, v2, v3, v4, v5, .long u, v7, v8] st I J Q = Rn S 94 76 [v0, v1, v2, v3, v4, v5, .long u, v7, v8] (.long u :: st) I J Q := rL f94_74 rfl rfl
theorem x94_76 : Rn S 94 76 [v0, v1, v2, v3, v4, v5, v6, v7, v8] [.long u] I J Q = Q (some (.long u)) I J := rR f94_76 rfl rfl rfl rfl rfl
end

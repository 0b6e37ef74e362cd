section
variable {S : zSg} {I : zI} {J : zJ} {Q : zQ} {st : List Value} {v0 v1 v2 v3 v4 v5 v6 v7 v8 v9 v10 v11 v12 v13 v14 v15 : Value} {a b c a0 a1 a2 a3 a4 a5 : Int32} {u w u0 u1 : Int64} {q r q0 q1 q2 xl : Nat}
/-! X0.pass: 1 -/
theorem B1 : zB 1 = cX0_pass := rfl
theorem f1_0 : zft 1 0 = some (.aload_n 0, 1) := fet B1 (by decide +kernel) (Or.inr rfl)
theorem f1_1 : zft 1 1 = some (.aload_n 1, 1) := fet B1 (by decide +kernel) (Or.inr rfl)
theorem f1_2 : zft 1 2 = some (.getfield 43, 3) := fet B1 (by decide +kernel) (Or.inr rfl)
theorem f1_5 : zft 1 5 = some (.invokevirtual 39, 3) := fet B1 (by decide +kernel) (Or.inr rfl)
theorem f1_8 : zft 1 8 = some (.iconst 0, 1) := fet B1 (by decide +kernel) (Or.inr rfl)
theorem f1_9 : zft 1 9 = some (.istore_n 2, 1) := fet B1 (by decide +kernel) (Or.inr rfl)
theorem f1_10 : zft 1 10 = some (.iload_n 2, 1) := fet B1 (by decide +kernel) (Or.inr rfl)
theorem f1_11 : zft 1 11 = some (.aload_n 1, 1) := fet B1 (by decide +kernel) (Or.inr rfl)
theorem f1_12 : zft 1 12 = some (.getfield 49, 3) := fet B1 (by decide +kernel) (Or.inr rfl)
theorem f1_15 : zft 1 15 = some (.if_icmp .ge 51, 3) := fet B1 (by decide +kernel) (Or.inr rfl)
theorem f1_18 : zft 1 18 = some (.aload_n 1, 1) := fet B1 (by decide +kernel) (Or.inr rfl)
theorem f1_19 : zft 1 19 = some (.getfield 52, 3) := fet B1 (by decide +kernel) (Or.inr rfl)
theorem f1_22 : zft 1 22 = some (.iload_n 2, 1) := fet B1 (by decide +kernel) (Or.inr rfl)
theorem f1_23 : zft 1 23 = some (.iaload, 1) := fet B1 (by decide +kernel) (Or.inr rfl)
theorem f1_24 : zft 1 24 = some (.aload_n 1, 1) := fet B1 (by decide +kernel) (Or.inr rfl)
theorem f1_25 : zft 1 25 = some (.getfield 55, 3) := fet B1 (by decide +kernel) (Or.inr rfl)
theorem f1_28 : zft 1 28 = some (.if_icmp .ge 7, 3) := fet B1 (by decide +kernel) (Or.inr rfl)
theorem f1_31 : zft 1 31 = some (.iconst 1, 1) := fet B1 (by decide +kernel) (Or.inr rfl)
theorem f1_32 : zft 1 32 = some (.goto 4, 3) := fet B1 (by decide +kernel) (Or.inr rfl)
theorem f1_35 : zft 1 35 = some (.iconst 0, 1) := fet B1 (by decide +kernel) (Or.inr rfl)
theorem f1_36 : zft 1 36 = some (.istore_n 3, 1) := fet B1 (by decide +kernel) (Or.inr rfl)
theorem f1_37 : zft 1 37 = some (.iload_n 3, 1) := fet B1 (by decide +kernel) (Or.inr rfl)
theorem f1_38 : zft 1 38 = some (.ifCond .eq 22, 3) := fet B1 (by decide +kernel) (Or.inr rfl)
theorem f1_41 : zft 1 41 = some (.aload_n 1, 1) := fet B1 (by decide +kernel) (Or.inr rfl)
theorem f1_42 : zft 1 42 = some (.getfield 58, 3) := fet B1 (by decide +kernel) (Or.inr rfl)
theorem f1_45 : zft 1 45 = some (.iload_n 2, 1) := fet B1 (by decide +kernel) (Or.inr rfl)
theorem f1_46 : zft 1 46 = some (.iaload, 1) := fet B1 (by decide +kernel) (Or.inr rfl)
theorem f1_47 : zft 1 47 = some (.aload_n 1, 1) := fet B1 (by decide +kernel) (Or.inr rfl)
theorem f1_48 : zft 1 48 = some (.getfield 43, 3) := fet B1 (by decide +kernel) (Or.inr rfl)
theorem f1_51 : zft 1 51 = some (.if_icmp .ge 9, 3) := fet B1 (by decide +kernel) (Or.inr rfl)
theorem f1_54 : zft 1 54 = some (.aload_n 0, 1) := fet B1 (by decide +kernel) (Or.inr rfl)
theorem f1_55 : zft 1 55 = some (.aload_n 1, 1) := fet B1 (by decide +kernel) (Or.inr rfl)
theorem f1_56 : zft 1 56 = some (.iload_n 2, 1) := fet B1 (by decide +kernel) (Or.inr rfl)
theorem f1_57 : zft 1 57 = some (.invokevirtual 61, 3) := fet B1 (by decide +kernel) (Or.inr rfl)
theorem f1_60 : zft 1 60 = some (.iinc 2 1, 3) := fet B1 (by decide +kernel) (Or.inr rfl)
theorem f1_63 : zft 1 63 = some (.goto (-53), 3) := fet B1 (by decide +kernel) (Or.inr rfl)
theorem f1_66 : zft 1 66 = some (.return_, 1) := fet B1 (by decide +kernel) (Or.inr rfl)
theorem x1_0 : Rn S 1 0 [.ref q, v1, v2, v3] st I J Q = Rn S 1 1 [.ref q, v1, v2, v3] (.ref q :: st) I J Q := rL f1_0 rfl rfl
theorem x1_1 : Rn S 1 1 [v0, .ref q, v2, v3] st I J Q = Rn S 1 2 [v0, .ref q, v2, v3] (.ref q :: st) I J Q := rL f1_1 rfl rfl
theorem x1_2_8 : Rn (zG xl) 1 2 [v0, v1, v2, v3] (.ref 8 :: st) I J Q = Rn (zG xl) 1 5 [v0, v1, v2, v3] (.int (I 8 0) :: st) I J Q := (rGf f1_2 rfl).trans (tr_and rfl)
theorem x1_2_28 : Rn (zG xl) 1 2 [v0, v1, v2, v3] (.ref 28 :: st) I J Q = Rn (zG xl) 1 5 [v0, v1, v2, v3] (.int (I 28 0) :: st) I J Q := (rGf f1_2 rfl).trans (tr_and rfl)
theorem x1_5 : Rn S 1 5 [v0, v1, v2, v3] (.int a0 :: .ref q :: st) I J Q = ((zcls S q = 0 ∧ zcs st ≤ 8) ∧ Rn S 2 0 [.ref q, .int a0] [] I J (fun v I' J' => Rn S 1 8 [v0, v1, v2, v3] (v.toList ++ st) I' J' Q)) := rCV (As := [.int a0]) f1_5 rfl rfl rfl rfl (Nat.le_of_ble_eq_true rfl)
theorem x1_8 : Rn S 1 8 [v0, v1, v2, v3] st I J Q = Rn S 1 9 [v0, v1, v2, v3] (.int 0 :: st) I J Q := rS f1_8 rfl
theorem x1_9 : Rn S 1 9 [v0, v1, v2, v3] (.int a :: st) I J Q = Rn S 1 10 [v0, zkl v1, .int a, v3] st I J Q := rL f1_9 rfl rfl
theorem h1_10 : Rn S 1 10 [v0, v1, .int a, v3] st I J Q = Rn S 1 11 [v0, v1, .int a, v3] (.int a :: st) I J Q := rL f1_10 rfl rfl
theorem x1_11 : Rn S 1 11 [v0, .ref q, v2, v3] st I J Q = Rn S 1 12 [v0, .ref q, v2, v3] (.ref q :: st) I J Q := rL f1_11 rfl rfl
theorem x1_12_8 : Rn (zG xl) 1 12 [v0, v1, v2, v3] (.ref 8 :: st) I J Q = Rn (zG xl) 1 15 [v0, v1, v2, v3] (.int (I 8 6) :: st) I J Q := (rGf f1_12 rfl).trans (tr_and rfl)
theorem x1_12_28 : Rn (zG xl) 1 12 [v0, v1, v2, v3] (.ref 28 :: st) I J Q = Rn (zG xl) 1 15 [v0, v1, v2, v3] (.int (I 28 6) :: st) I J Q := (rGf f1_12 rfl).trans (tr_and rfl)
theorem x1_15 : Rn S 1 15 [v0, v1, v2, v3] (.int b :: .int a :: st) I J Q = if a < b then Rn S 1 18 [v0, v1, v2, v3] st I J Q else Rn S 1 66 [v0, v1, v2, v3] st I J Q := rCge f1_15 rfl rfl
theorem x1_18 : Rn S 1 18 [v0, .ref q, v2, v3] st I J Q = Rn S 1 19 [v0, .ref q, v2, v3] (.ref q :: st) I J Q := rL f1_18 rfl rfl
theorem x1_19_8 : Rn (zG xl) 1 19 [v0, v1, v2, v3] (.ref 8 :: st) I J Q = Rn (zG xl) 1 22 [v0, v1, v2, v3] (.ref 13 :: st) I J Q := (rGf f1_19 rfl).trans (tr_and rfl)
theorem x1_19_28 : Rn (zG xl) 1 19 [v0, v1, v2, v3] (.ref 28 :: st) I J Q = Rn (zG xl) 1 22 [v0, v1, v2, v3] (.ref 33 :: st) I J Q := (rGf f1_19 rfl).trans (tr_and rfl)
theorem x1_22 : Rn S 1 22 [v0, v1, .int a, v3] st I J Q = Rn S 1 23 [v0, v1, .int a, v3] (.int a :: st) I J Q := rL f1_22 rfl rfl
theorem x1_23 : Rn S 1 23 [v0, v1, v2, v3] (.int a :: .ref q :: st) I J Q = (zai S q a ∧ Rn S 1 24 [v0, v1, v2, v3] (.int (I q a.toNatClampNeg) :: st) I J Q) := rIal f1_23
theorem x1_24 : Rn S 1 24 [v0, .ref q, v2, v3] st I J Q = Rn S 1 25 [v0, .ref q, v2, v3] (.ref q :: st) I J Q := rL f1_24 rfl rfl
theorem x1_25_8 : Rn (zG xl) 1 25 [v0, v1, v2, v3] (.ref 8 :: st) I J Q = Rn (zG xl) 1 28 [v0, v1, v2, v3] (.int (I 8 3) :: st) I J Q := (rGf f1_25 rfl).trans (tr_and rfl)
theorem x1_25_28 : Rn (zG xl) 1 25 [v0, v1, v2, v3] (.ref 28 :: st) I J Q = Rn (zG xl) 1 28 [v0, v1, v2, v3] (.int (I 28 3) :: st) I J Q := (rGf f1_25 rfl).trans (tr_and rfl)
theorem x1_28 : Rn S 1 28 [v0, v1, v2, v3] (.int b :: .int a :: st) I J Q = if a < b then Rn S 1 31 [v0, v1, v2, v3] st I J Q else Rn S 1 35 [v0, v1, v2, v3] st I J Q := rCge f1_28 rfl rfl
theorem x1_31 : Rn S 1 31 [v0, v1, v2, v3] st I J Q = Rn S 1 32 [v0, v1, v2, v3] (.int 1 :: st) I J Q := rS f1_31 rfl
theorem x1_32 : Rn S 1 32 [v0, v1, v2, v3] st I J Q = Rn S 1 36 [v0, v1, v2, v3] st I J Q := rB f1_32 rfl rfl rfl
theorem x1_35 : Rn S 1 35 [v0, v1, v2, v3] st I J Q = Rn S 1 36 [v0, v1, v2, v3] (.int 0 :: st) I J Q := rS f1_35 rfl
theorem x1_36 : Rn S 1 36 [v0, v1, v2, v3] (.int a :: st) I J Q = Rn S 1 37 [v0, v1, zkl v2, .int a] st I J Q := rL f1_36 rfl rfl
theorem x1_37 : Rn S 1 37 [v0, v1, v2, .int a] st I J Q = Rn S 1 38 [v0, v1, v2, .int a] (.int a :: st) I J Q := rL f1_37 rfl rfl
theorem x1_38 : Rn S 1 38 [v0, v1, v2, v3] (.int a :: st) I J Q = if a = 0 then Rn S 1 60 [v0, v1, v2, v3] st I J Q else Rn S 1 41 [v0, v1, v2, v3] st I J Q := rIeq f1_38 rfl rfl
theorem x1_41 : Rn S 1 41 [v0, .ref q, v2, v3] st I J Q = Rn S 1 42 [v0, .ref q, v2, v3] (.ref q :: st) I J Q := rL f1_41 rfl rfl
theorem x1_42_8 : Rn (zG xl) 1 42 [v0, v1, v2, v3] (.ref 8 :: st) I J Q = Rn (zG xl) 1 45 [v0, v1, v2, v3] (.ref 14 :: st) I J Q := (rGf f1_42 rfl).trans (tr_and rfl)
theorem x1_42_28 : Rn (zG xl) 1 42 [v0, v1, v2, v3] (.ref 28 :: st) I J Q = Rn (zG xl) 1 45 [v0, v1, v2, v3] (.ref 34 :: st) I J Q := (rGf f1_42 rfl).trans (tr_and rfl)
theorem x1_45 : Rn S 1 45 [v0, v1, .int a, v3] st I J Q = Rn S 1 46 [v0, v1, .int a, v3] (.int a :: st) I J Q := rL f1_45 rfl rfl
theorem x1_46 : Rn S 1 46 [v0, v1, v2, v3] (.int a :: .ref q :: st) I J Q = (zai S q a ∧ Rn S 1 47 [v0, v1, v2, v3] (.int (I q a.toNatClampNeg) :: st) I J Q) := rIal f1_46
theorem x1_47 : Rn S 1 47 [v0, .ref q, v2, v3] st I J Q = Rn S 1 48 [v0, .ref q, v2, v3] (.ref q :: st) I J Q := rL f1_47 rfl rfl
theorem x1_48_8 : Rn (zG xl) 1 48 [v0, v1, v2, v3] (.ref 8 :: st) I J Q = Rn (zG xl) 1 51 [v0, v1, v2, v3] (.int (I 8 0) :: st) I J Q := (rGf f1_48 rfl).trans (tr_and rfl)
theorem x1_48_28 : Rn (zG xl) 1 48 [v0, v1, v2, v3] (.ref 28 :: st) I J Q = Rn (zG xl) 1 51 [v0, v1, v2, v3] (.int (I 28 0) :: st) I J Q := (rGf f1_48 rfl).trans (tr_and rfl)
theorem x1_51 : Rn S 1 51 [v0, v1, v2, v3] (.int b :: .int a :: st) I J Q = if a < b then Rn S 1 54 [v0, v1, v2, v3] st I J Q else Rn S 1 60 [v0, v1, v2, v3] st I J Q := rCge f1_51 rfl rfl
theorem x1_54 : Rn S 1 54 [.ref q, v1, v2, v3] st I J Q = Rn S 1 55 [.ref q, v1, v2, v3] (.ref q :: st) I J Q := rL f1_54 rfl rfl
theorem x1_55 : Rn S 1 55 [v0, .ref q, v2, v3] st I J Q = Rn S 1 56 [v0, .ref q, v2, v3] (.ref q :: st) I J Q := rL f1_55 rfl rfl
theorem x1_56 : Rn S 1 56 [v0, v1, .int a, v3] st I J Q = Rn S 1 57 [v0, v1, .int a, v3] (.int a :: st) I J Q := rL f1_56 rfl rfl
theorem x1_57 : Rn S 1 57 [v0, v1, v2, v3] (.int a1 :: .ref q0 :: .ref q :: st) I J Q = ((zcls S q = 0 ∧ zcs st ≤ 8) ∧ Rn S 3 0 [.ref q, .ref q0, .int a1, .null, .null, .null, .null, .null, .null, .null] [] I J (fun v I' J' => Rn S 1 60 [v0, v1, v2, v3] (v.toList ++ st) I' J' Q)) := rCV (As := [.ref q0, .int a1]) f1_57 rfl rfl rfl rfl (Nat.le_of_ble_eq_true rfl)
theorem x1_60 : Rn S 1 60 [v0, v1, .int a, v3] st I J Q = Rn S 1 63 [v0, zkl v1, .int (a + 1), v3] st I J Q := rL f1_60 rfl rfl
theorem x1_63 : Rn S 1 63 [v0, v1, v2, v3] st I J Q = Rn S 1 10 [v0, v1, v2, v3] st I J Q := rB f1_63 rfl rfl rfl
theorem x1_66 : Rn S 1 66 [v0, v1, v2, v3] [] I J Q = Q none I J := rR f1_66 rfl rfl rfl rfl rfl
/-! X0.forgetAll: 2 -/
theorem B2 : zB 2 = cX0_forgetAll := rfl
theorem f2_0 : zft 2 0 = some (.aload_n 0, 1) := fet B2 (by decide +kernel) (Or.inr rfl)
theorem f2_1 : zft 2 1 = some (.iload_n 1, 1) := fet B2 (by decide +kernel) (Or.inr rfl)
theorem f2_2 : zft 2 2 = some (.putfield 65, 3) := fet B2 (by decide +kernel) (Or.inr rfl)
theorem f2_5 : zft 2 5 = some (.aload_n 0, 1) := fet B2 (by decide +kernel) (Or.inr rfl)
theorem f2_6 : zft 2 6 = some (.getfield 9, 3) := fet B2 (by decide +kernel) (Or.inr rfl)
theorem f2_9 : zft 2 9 = some (.iconst (-1), 1) := fet B2 (by decide +kernel) (Or.inr rfl)
theorem f2_10 : zft 2 10 = some (.invokestatic 66, 3) := fet B2 (by decide +kernel) (Or.inr rfl)
theorem f2_13 : zft 2 13 = some (.aload_n 0, 1) := fet B2 (by decide +kernel) (Or.inr rfl)
theorem f2_14 : zft 2 14 = some (.getfield 15, 3) := fet B2 (by decide +kernel) (Or.inr rfl)
theorem f2_17 : zft 2 17 = some (.iconst (-1), 1) := fet B2 (by decide +kernel) (Or.inr rfl)
theorem f2_18 : zft 2 18 = some (.invokestatic 66, 3) := fet B2 (by decide +kernel) (Or.inr rfl)
theorem f2_21 : zft 2 21 = some (.aload_n 0, 1) := fet B2 (by decide +kernel) (Or.inr rfl)
theorem f2_22 : zft 2 22 = some (.getfield 18, 3) := fet B2 (by decide +kernel) (Or.inr rfl)
theorem f2_25 : zft 2 25 = some (.iconst 0, 1) := fet B2 (by decide +kernel) (Or.inr rfl)
theorem f2_26 : zft 2 26 = some (.invokestatic 66, 3) := fet B2 (by decide +kernel) (Or.inr rfl)
theorem f2_29 : zft 2 29 = some (.aload_n 0, 1) := fet B2 (by decide +kernel) (Or.inr rfl)
theorem f2_30 : zft 2 30 = some (.getfield 21, 3) := fet B2 (by decide +kernel) (Or.inr rfl)
theorem f2_33 : zft 2 33 = some (.iconst 0, 1) := fet B2 (by decide +kernel) (Or.inr rfl)
theorem f2_34 : zft 2 34 = some (.invokestatic 66, 3) := fet B2 (by decide +kernel) (Or.inr rfl)
theorem f2_37 : zft 2 37 = some (.aload_n 0, 1) := fet B2 (by decide +kernel) (Or.inr rfl)
theorem f2_38 : zft 2 38 = some (.getfield 24, 3) := fet B2 (by decide +kernel) (Or.inr rfl)
theorem f2_41 : zft 2 41 = some (.iconst 0, 1) := fet B2 (by decide +kernel) (Or.inr rfl)
theorem f2_42 : zft 2 42 = some (.invokestatic 66, 3) := fet B2 (by decide +kernel) (Or.inr rfl)
theorem f2_45 : zft 2 45 = some (.aload_n 0, 1) := fet B2 (by decide +kernel) (Or.inr rfl)
theorem f2_46 : zft 2 46 = some (.getfield 27, 3) := fet B2 (by decide +kernel) (Or.inr rfl)
theorem f2_49 : zft 2 49 = some (.iconst (-1), 1) := fet B2 (by decide +kernel) (Or.inr rfl)
theorem f2_50 : zft 2 50 = some (.invokestatic 66, 3) := fet B2 (by decide +kernel) (Or.inr rfl)
theorem f2_53 : zft 2 53 = some (.aload_n 0, 1) := fet B2 (by decide +kernel) (Or.inr rfl)
theorem f2_54 : zft 2 54 = some (.getfield 30, 3) := fet B2 (by decide +kernel) (Or.inr rfl)
theorem f2_57 : zft 2 57 = some (.iconst 0, 1) := fet B2 (by decide +kernel) (Or.inr rfl)
theorem f2_58 : zft 2 58 = some (.invokestatic 66, 3) := fet B2 (by decide +kernel) (Or.inr rfl)
theorem f2_61 : zft 2 61 = some (.aload_n 0, 1) := fet B2 (by decide +kernel) (Or.inr rfl)
theorem f2_62 : zft 2 62 = some (.getfield 33, 3) := fet B2 (by decide +kernel) (Or.inr rfl)
theorem f2_65 : zft 2 65 = some (.iconst (-1), 1) := fet B2 (by decide +kernel) (Or.inr rfl)
theorem f2_66 : zft 2 66 = some (.invokestatic 66, 3) := fet B2 (by decide +kernel) (Or.inr rfl)
theorem f2_69 : zft 2 69 = some (.aload_n 0, 1) := fet B2 (by decide +kernel) (Or.inr rfl)
theorem f2_70 : zft 2 70 = some (.getfield 36, 3) := fet B2 (by decide +kernel) (Or.inr rfl)
theorem f2_73 : zft 2 73 = some (.iconst 0, 1) := fet B2 (by decide +kernel) (Or.inr rfl)
theorem f2_74 : zft 2 74 = some (.invokestatic 66, 3) := fet B2 (by decide +kernel) (Or.inr rfl)
theorem f2_77 : zft 2 77 = some (.return_, 1) := fet B2 (by decide +kernel) (Or.inr rfl)
theorem x2_0 : Rn S 2 0 [.ref q, v1] st I J Q = Rn S 2 1 [.ref q, v1] (.ref q :: st) I J Q := rL f2_0 rfl rfl
theorem x2_1 : Rn S 2 1 [v0, .int a] st I J Q = Rn S 2 2 [v0, .int a] (.int a :: st) I J Q := rL f2_1 rfl rfl
theorem x2_2_18 : Rn (zG xl) 2 2 [v0, v1] (.int a :: .ref 18 :: st) I J Q = Rn (zG xl) 2 5 [v0, v1] st (zr I 18 (upd (I 18) 0 a)) J Q := (rPf f2_2 rfl).trans (tr_pf rfl rfl rfl)
theorem x2_2_38 : Rn (zG xl) 2 2 [v0, v1] (.int a :: .ref 38 :: st) I J Q = Rn (zG xl) 2 5 [v0, v1] st (zr I 38 (upd (I 38) 0 a)) J Q := (rPf f2_2 rfl).trans (tr_pf rfl rfl rfl)
theorem x2_5 : Rn S 2 5 [.ref q, v1] st I J Q = Rn S 2 6 [.ref q, v1] (.ref q :: st) I J Q := rL f2_5 rfl rfl
theorem x2_6_18 : Rn (zG xl) 2 6 [v0, v1] (.ref 18 :: st) I J Q = Rn (zG xl) 2 9 [v0, v1] (.ref 19 :: st) I J Q := (rGf f2_6 rfl).trans (tr_and rfl)
theorem x2_6_38 : Rn (zG xl) 2 6 [v0, v1] (.ref 38 :: st) I J Q = Rn (zG xl) 2 9 [v0, v1] (.ref 39 :: st) I J Q := (rGf f2_6 rfl).trans (tr_and rfl)
theorem x2_9 : Rn S 2 9 [v0, v1] st I J Q = Rn S 2 10 [v0, v1] (.int (-1) :: st) I J Q := rS f2_9 rfl
theorem x2_10 : Rn S 2 10 [v0, v1] (.int a1 :: .ref q0 :: st) I J Q = (zcs st ≤ 8 ∧ Rn S 198 0 [.ref q0, .int a1, .null, .null] [] I J (fun v I' J' => Rn S 2 13 [v0, v1] (v.toList ++ st) I' J' Q)) := rCS (As := [.ref q0, .int a1]) f2_10 rfl rfl rfl rfl (Nat.le_of_ble_eq_true rfl)
theorem x2_13 : Rn S 2 13 [.ref q, v1] st I J Q = Rn S 2 14 [.ref q, v1] (.ref q :: st) I J Q := rL f2_13 rfl rfl
theorem x2_14_18 : Rn (zG xl) 2 14 [v0, v1] (.ref 18 :: st) I J Q = Rn (zG xl) 2 17 [v0, v1] (.ref 20 :: st) I J Q := (rGf f2_14 rfl).trans (tr_and rfl)
theorem x2_14_38 : Rn (zG xl) 2 14 [v0, v1] (.ref 38 :: st) I J Q = Rn (zG xl) 2 17 [v0, v1] (.ref 40 :: st) I J Q := (rGf f2_14 rfl).trans (tr_and rfl)
theorem x2_17 : Rn S 2 17 [v0, v1] st I J Q = Rn S 2 18 [v0, v1] (.int (-1) :: st) I J Q := rS f2_17 rfl
theorem x2_18 : Rn S 2 18 [v0, v1] (.int a1 :: .ref q0 :: st) I J Q = (zcs st ≤ 8 ∧ Rn S 198 0 [.ref q0, .int a1, .null, .null] [] I J (fun v I' J' => Rn S 2 21 [v0, v1] (v.toList ++ st) I' J' Q)) := rCS (As := [.ref q0, .int a1]) f2_18 rfl rfl rfl rfl (Nat.le_of_ble_eq_true rfl)
theorem x2_21 : Rn S 2 21 [.ref q, v1] st I J Q = Rn S 2 22 [.ref q, v1] (.ref q :: st) I J Q := rL f2_21 rfl rfl
theorem x2_22_18 : Rn (zG xl) 2 22 [v0, v1] (.ref 18 :: st) I J Q = Rn (zG xl) 2 25 [v0, v1] (.ref 21 :: st) I J Q := (rGf f2_22 rfl).trans (tr_and rfl)
theorem x2_22_38 : Rn (zG xl) 2 22 [v0, v1] (.ref 38 :: st) I J Q = Rn (zG xl) 2 25 [v0, v1] (.ref 41 :: st) I J Q := (rGf f2_22 rfl).trans (tr_and rfl)
theorem x2_25 : Rn S 2 25 [v0, v1] st I J Q = Rn S 2 26 [v0, v1] (.int 0 :: st) I J Q := rS f2_25 rfl
theorem x2_26 : Rn S 2 26 [v0, v1] (.int a1 :: .ref q0 :: st) I J Q = (zcs st ≤ 8 ∧ Rn S 198 0 [.ref q0, .int a1, .null, .null] [] I J (fun v I' J' => Rn S 2 29 [v0, v1] (v.toList ++ st) I' J' Q)) := rCS (As := [.ref q0, .int a1]) f2_26 rfl rfl rfl rfl (Nat.le_of_ble_eq_true rfl)
theorem x2_29 : Rn S 2 29 [.ref q, v1] st I J Q = Rn S 2 30 [.ref q, v1] (.ref q :: st) I J Q := rL f2_29 rfl rfl
theorem x2_30_18 : Rn (zG xl) 2 30 [v0, v1] (.ref 18 :: st) I J Q = Rn (zG xl) 2 33 [v0, v1] (.ref 22 :: st) I J Q := (rGf f2_30 rfl).trans (tr_and rfl)
theorem x2_30_38 : Rn (zG xl) 2 30 [v0, v1] (.ref 38 :: st) I J Q = Rn (zG xl) 2 33 [v0, v1] (.ref 42 :: st) I J Q := (rGf f2_30 rfl).trans (tr_and rfl)
theorem x2_33 : Rn S 2 33 [v0, v1] st I J Q = Rn S 2 34 [v0, v1] (.int 0 :: st) I J Q := rS f2_33 rfl
theorem x2_34 : Rn S 2 34 [v0, v1] (.int a1 :: .ref q0 :: st) I J Q = (zcs st ≤ 8 ∧ Rn S 198 0 [.ref q0, .int a1, .null, .null] [] I J (fun v I' J' => Rn S 2 37 [v0, v1] (v.toList ++ st) I' J' Q)) := rCS (As := [.ref q0, .int a1]) f2_34 rfl rfl rfl rfl (Nat.le_of_ble_eq_true rfl)
theorem x2_37 : Rn S 2 37 [.ref q, v1] st I J Q = Rn S 2 38 [.ref q, v1] (.ref q :: st) I J Q := rL f2_37 rfl rfl
theorem x2_38_18 : Rn (zG xl) 2 38 [v0, v1] (.ref 18 :: st) I J Q = Rn (zG xl) 2 41 [v0, v1] (.ref 23 :: st) I J Q := (rGf f2_38 rfl).trans (tr_and rfl)
theorem x2_38_38 : Rn (zG xl) 2 38 [v0, v1] (.ref 38 :: st) I J Q = Rn (zG xl) 2 41 [v0, v1] (.ref 43 :: st) I J Q := (rGf f2_38 rfl).trans (tr_and rfl)
theorem x2_41 : Rn S 2 41 [v0, v1] st I J Q = Rn S 2 42 [v0, v1] (.int 0 :: st) I J Q := rS f2_41 rfl
theorem x2_42 : Rn S 2 42 [v0, v1] (.int a1 :: .ref q0 :: st) I J Q = (zcs st ≤ 8 ∧ Rn S 198 0 [.ref q0, .int a1, .null, .null] [] I J (fun v I' J' => Rn S 2 45 [v0, v1] (v.toList ++ st) I' J' Q)) := rCS (As := [.ref q0, .int a1]) f2_42 rfl rfl rfl rfl (Nat.le_of_ble_eq_true rfl)
theorem x2_45 : Rn S 2 45 [.ref q, v1] st I J Q = Rn S 2 46 [.ref q, v1] (.ref q :: st) I J Q := rL f2_45 rfl rfl
theorem x2_46_18 : Rn (zG xl) 2 46 [v0, v1] (.ref 18 :: st) I J Q = Rn (zG xl) 2 49 [v0, v1] (.ref 24 :: st) I J Q := (rGf f2_46 rfl).trans (tr_and rfl)
theorem x2_46_38 : Rn (zG xl) 2 46 [v0, v1] (.ref 38 :: st) I J Q = Rn (zG xl) 2 49 [v0, v1] (.ref 44 :: st) I J Q := (rGf f2_46 rfl).trans (tr_and rfl)
theorem x2_49 : Rn S 2 49 [v0, v1] st I J Q = Rn S 2 50 [v0, v1] (.int (-1) :: st) I J Q := rS f2_49 rfl
theorem x2_50 : Rn S 2 50 [v0, v1] (.int a1 :: .ref q0 :: st) I J Q = (zcs st ≤ 8 ∧ Rn S 198 0 [.ref q0, .int a1, .null, .null] [] I J (fun v I' J' => Rn S 2 53 [v0, v1] (v.toList ++ st) I' J' Q)) := rCS (As := [.ref q0, .int a1]) f2_50 rfl rfl rfl rfl (Nat.le_of_ble_eq_true rfl)
theorem x2_53 : Rn S 2 53 [.ref q, v1] st I J Q = Rn S 2 54 [.ref q, v1] (.ref q :: st) I J Q := rL f2_53 rfl rfl
theorem x2_54_18 : Rn (zG xl) 2 54 [v0, v1] (.ref 18 :: st) I J Q = Rn (zG xl) 2 57 [v0, v1] (.ref 25 :: st) I J Q := (rGf f2_54 rfl).trans (tr_and rfl)
theorem x2_54_38 : Rn (zG xl) 2 54 [v0, v1] (.ref 38 :: st) I J Q = Rn (zG xl) 2 57 [v0, v1] (.ref 45 :: st) I J Q := (rGf f2_54 rfl).trans (tr_and rfl)
theorem x2_57 : Rn S 2 57 [v0, v1] st I J Q = Rn S 2 58 [v0, v1] (.int 0 :: st) I J Q := rS f2_57 rfl
theorem x2_58 : Rn S 2 58 [v0, v1] (.int a1 :: .ref q0 :: st) I J Q = (zcs st ≤ 8 ∧ Rn S 198 0 [.ref q0, .int a1, .null, .null] [] I J (fun v I' J' => Rn S 2 61 [v0, v1] (v.toList ++ st) I' J' Q)) := rCS (As := [.ref q0, .int a1]) f2_58 rfl rfl rfl rfl (Nat.le_of_ble_eq_true rfl)
theorem x2_61 : Rn S 2 61 [.ref q, v1] st I J Q = Rn S 2 62 [.ref q, v1] (.ref q :: st) I J Q := rL f2_61 rfl rfl
theorem x2_62_18 : Rn (zG xl) 2 62 [v0, v1] (.ref 18 :: st) I J Q = Rn (zG xl) 2 65 [v0, v1] (.ref 26 :: st) I J Q := (rGf f2_62 rfl).trans (tr_and rfl)
theorem x2_62_38 : Rn (zG xl) 2 62 [v0, v1] (.ref 38 :: st) I J Q = Rn (zG xl) 2 65 [v0, v1] (.ref 46 :: st) I J Q := (rGf f2_62 rfl).trans (tr_and rfl)
theorem x2_65 : Rn S 2 65 [v0, v1] st I J Q = Rn S 2 66 [v0, v1] (.int (-1) :: st) I J Q := rS f2_65 rfl
theorem x2_66 : Rn S 2 66 [v0, v1] (.int a1 :: .ref q0 :: st) I J Q = (zcs st ≤ 8 ∧ Rn S 198 0 [.ref q0, .int a1, .null, .null] [] I J (fun v I' J' => Rn S 2 69 [v0, v1] (v.toList ++ st) I' J' Q)) := rCS (As := [.ref q0, .int a1]) f2_66 rfl rfl rfl rfl (Nat.le_of_ble_eq_true rfl)
theorem x2_69 : Rn S 2 69 [.ref q, v1] st I J Q = Rn S 2 70 [.ref q, v1] (.ref q :: st) I J Q := rL f2_69 rfl rfl
theorem x2_70_18 : Rn (zG xl) 2 70 [v0, v1] (.ref 18 :: st) I J Q = Rn (zG xl) 2 73 [v0, v1] (.ref 27 :: st) I J Q := (rGf f2_70 rfl).trans (tr_and rfl)
theorem x2_70_38 : Rn (zG xl) 2 70 [v0, v1] (.ref 38 :: st) I J Q = Rn (zG xl) 2 73 [v0, v1] (.ref 47 :: st) I J Q := (rGf f2_70 rfl).trans (tr_and rfl)
theorem x2_73 : Rn S 2 73 [v0, v1] st I J Q = Rn S 2 74 [v0, v1] (.int 0 :: st) I J Q := rS f2_73 rfl
theorem x2_74 : Rn S 2 74 [v0, v1] (.int a1 :: .ref q0 :: st) I J Q = (zcs st ≤ 8 ∧ Rn S 198 0 [.ref q0, .int a1, .null, .null] [] I J (fun v I' J' => Rn S 2 77 [v0, v1] (v.toList ++ st) I' J' Q)) := rCS (As := [.ref q0, .int a1]) f2_74 rfl rfl rfl rfl (Nat.le_of_ble_eq_true rfl)
theorem x2_77 : Rn S 2 77 [v0, v1] [] I J Q = Q none I J := rR f2_77 rfl rfl rfl rfl rfl
/-! X0.doShift: 3 -/
theorem B3 : zB 3 = cX0_doShift := rfl
theorem f3_0 : zft 3 0 = some (.aload_n 1, 1) := fet B3 (by decide +kernel) (Or.inr rfl)
theorem f3_1 : zft 3 1 = some (.getfield 52, 3) := fet B3 (by decide +kernel) (Or.inr rfl)
theorem f3_4 : zft 3 4 = some (.iload_n 2, 1) := fet B3 (by decide +kernel) (Or.inr rfl)
theorem f3_5 : zft 3 5 = some (.iaload, 1) := fet B3 (by decide +kernel) (Or.inr rfl)
theorem f3_6 : zft 3 6 = some (.istore_n 3, 1) := fet B3 (by decide +kernel) (Or.inr rfl)
theorem f3_7 : zft 3 7 = some (.aload_n 1, 1) := fet B3 (by decide +kernel) (Or.inr rfl)
theorem f3_8 : zft 3 8 = some (.getfield 58, 3) := fet B3 (by decide +kernel) (Or.inr rfl)
theorem f3_11 : zft 3 11 = some (.iload_n 2, 1) := fet B3 (by decide +kernel) (Or.inr rfl)
theorem f3_12 : zft 3 12 = some (.iaload, 1) := fet B3 (by decide +kernel) (Or.inr rfl)
theorem f3_13 : zft 3 13 = some (.istore 4, 2) := fet B3 (by decide +kernel) (Or.inr rfl)
theorem f3_15 : zft 3 15 = some (.aload_n 1, 1) := fet B3 (by decide +kernel) (Or.inr rfl)
theorem f3_16 : zft 3 16 = some (.iload_n 3, 1) := fet B3 (by decide +kernel) (Or.inr rfl)
theorem f3_17 : zft 3 17 = some (.invokevirtual 72, 3) := fet B3 (by decide +kernel) (Or.inr rfl)
theorem f3_20 : zft 3 20 = some (.istore 5, 2) := fet B3 (by decide +kernel) (Or.inr rfl)
theorem f3_22 : zft 3 22 = some (.aload_n 0, 1) := fet B3 (by decide +kernel) (Or.inr rfl)
theorem f3_23 : zft 3 23 = some (.getfield 21, 3) := fet B3 (by decide +kernel) (Or.inr rfl)
theorem f3_26 : zft 3 26 = some (.iload_n 3, 1) := fet B3 (by decide +kernel) (Or.inr rfl)
theorem f3_27 : zft 3 27 = some (.iaload, 1) := fet B3 (by decide +kernel) (Or.inr rfl)
theorem f3_28 : zft 3 28 = some (.iload 5, 2) := fet B3 (by decide +kernel) (Or.inr rfl)
theorem f3_30 : zft 3 30 = some (.imul, 1) := fet B3 (by decide +kernel) (Or.inr rfl)
theorem f3_31 : zft 3 31 = some (.istore 6, 2) := fet B3 (by decide +kernel) (Or.inr rfl)
theorem f3_33 : zft 3 33 = some (.iload 6, 2) := fet B3 (by decide +kernel) (Or.inr rfl)
theorem f3_35 : zft 3 35 = some (.iload 5, 2) := fet B3 (by decide +kernel) (Or.inr rfl)
theorem f3_37 : zft 3 37 = some (.iadd, 1) := fet B3 (by decide +kernel) (Or.inr rfl)
theorem f3_38 : zft 3 38 = some (.iconst 1, 1) := fet B3 (by decide +kernel) (Or.inr rfl)
theorem f3_39 : zft 3 39 = some (.isub, 1) := fet B3 (by decide +kernel) (Or.inr rfl)
theorem f3_40 : zft 3 40 = some (.istore 7, 2) := fet B3 (by decide +kernel) (Or.inr rfl)
theorem f3_42 : zft 3 42 = some (.iload 7, 2) := fet B3 (by decide +kernel) (Or.inr rfl)
theorem f3_44 : zft 3 44 = some (.aload_n 1, 1) := fet B3 (by decide +kernel) (Or.inr rfl)
theorem f3_45 : zft 3 45 = some (.getfield 76, 3) := fet B3 (by decide +kernel) (Or.inr rfl)
theorem f3_48 : zft 3 48 = some (.if_icmp .lt 4, 3) := fet B3 (by decide +kernel) (Or.inr rfl)
theorem f3_51 : zft 3 51 = some (.return_, 1) := fet B3 (by decide +kernel) (Or.inr rfl)
theorem f3_52 : zft 3 52 = some (.iload 6, 2) := fet B3 (by decide +kernel) (Or.inr rfl)
theorem f3_54 : zft 3 54 = some (.ifCond .ne 7, 3) := fet B3 (by decide +kernel) (Or.inr rfl)
theorem f3_57 : zft 3 57 = some (.iconst 0, 1) := fet B3 (by decide +kernel) (Or.inr rfl)
theorem f3_58 : zft 3 58 = some (.goto 10, 3) := fet B3 (by decide +kernel) (Or.inr rfl)
theorem f3_61 : zft 3 61 = some (.iload 6, 2) := fet B3 (by decide +kernel) (Or.inr rfl)
theorem f3_63 : zft 3 63 = some (.iload 5, 2) := fet B3 (by decide +kernel) (Or.inr rfl)
theorem f3_65 : zft 3 65 = some (.isub, 1) := fet B3 (by decide +kernel) (Or.inr rfl)
theorem f3_66 : zft 3 66 = some (.iconst 1, 1) := fet B3 (by decide +kernel) (Or.inr rfl)
theorem f3_67 : zft 3 67 = some (.iadd, 1) := fet B3 (by decide +kernel) (Or.inr rfl)
theorem f3_68 : zft 3 68 = some (.istore 8, 2) := fet B3 (by decide +kernel) (Or.inr rfl)
theorem f3_70 : zft 3 70 = some (.aload_n 1, 1) := fet B3 (by decide +kernel) (Or.inr rfl)
theorem f3_71 : zft 3 71 = some (.iconst 1, 1) := fet B3 (by decide +kernel) (Or.inr rfl)
theorem f3_72 : zft 3 72 = some (.iload_n 3, 1) := fet B3 (by decide +kernel) (Or.inr rfl)
theorem f3_73 : zft 3 73 = some (.iload 8, 2) := fet B3 (by decide +kernel) (Or.inr rfl)
theorem f3_75 : zft 3 75 = some (.iload 6, 2) := fet B3 (by decide +kernel) (Or.inr rfl)
theorem f3_77 : zft 3 77 = some (.invokevirtual 79, 3) := fet B3 (by decide +kernel) (Or.inr rfl)
theorem f3_80 : zft 3 80 = some (.istore 9, 2) := fet B3 (by decide +kernel) (Or.inr rfl)
theorem f3_82 : zft 3 82 = some (.aload_n 0, 1) := fet B3 (by decide +kernel) (Or.inr rfl)
theorem f3_83 : zft 3 83 = some (.getfield 24, 3) := fet B3 (by decide +kernel) (Or.inr rfl)
theorem f3_86 : zft 3 86 = some (.iload_n 3, 1) := fet B3 (by decide +kernel) (Or.inr rfl)
theorem f3_87 : zft 3 87 = some (.iconst 0, 1) := fet B3 (by decide +kernel) (Or.inr rfl)
theorem f3_88 : zft 3 88 = some (.aload_n 0, 1) := fet B3 (by decide +kernel) (Or.inr rfl)
theorem f3_89 : zft 3 89 = some (.getfield 24, 3) := fet B3 (by decide +kernel) (Or.inr rfl)
theorem f3_92 : zft 3 92 = some (.iload_n 3, 1) := fet B3 (by decide +kernel) (Or.inr rfl)
theorem f3_93 : zft 3 93 = some (.iaload, 1) := fet B3 (by decide +kernel) (Or.inr rfl)
theorem f3_94 : zft 3 94 = some (.iconst 3, 1) := fet B3 (by decide +kernel) (Or.inr rfl)
theorem f3_95 : zft 3 95 = some (.iload 9, 2) := fet B3 (by decide +kernel) (Or.inr rfl)
theorem f3_97 : zft 3 97 = some (.imul, 1) := fet B3 (by decide +kernel) (Or.inr rfl)
theorem f3_98 : zft 3 98 = some (.isub, 1) := fet B3 (by decide +kernel) (Or.inr rfl)
theorem f3_99 : zft 3 99 = some (.invokestatic 83, 3) := fet B3 (by decide +kernel) (Or.inr rfl)
theorem f3_102 : zft 3 102 = some (.iastore, 1) := fet B3 (by decide +kernel) (Or.inr rfl)
theorem f3_103 : zft 3 103 = some (.aload_n 0, 1) := fet B3 (by decide +kernel) (Or.inr rfl)
theorem f3_104 : zft 3 104 = some (.getfield 33, 3) := fet B3 (by decide +kernel) (Or.inr rfl)
theorem f3_107 : zft 3 107 = some (.iload_n 2, 1) := fet B3 (by decide +kernel) (Or.inr rfl)
theorem f3_108 : zft 3 108 = some (.iload 6, 2) := fet B3 (by decide +kernel) (Or.inr rfl)
theorem f3_110 : zft 3 110 = some (.iastore, 1) := fet B3 (by decide +kernel) (Or.inr rfl)
theorem f3_111 : zft 3 111 = some (.aload_n 0, 1) := fet B3 (by decide +kernel) (Or.inr rfl)
theorem f3_112 : zft 3 112 = some (.getfield 18, 3) := fet B3 (by decide +kernel) (Or.inr rfl)
theorem f3_115 : zft 3 115 = some (.iload 4, 2) := fet B3 (by decide +kernel) (Or.inr rfl)
theorem f3_117 : zft 3 117 = some (.dup2, 1) := fet B3 (by decide +kernel) (Or.inr rfl)
theorem f3_118 : zft 3 118 = some (.iaload, 1) := fet B3 (by decide +kernel) (Or.inr rfl)
theorem f3_119 : zft 3 119 = some (.iconst 1, 1) := fet B3 (by decide +kernel) (Or.inr rfl)
theorem f3_120 : zft 3 120 = some (.iadd, 1) := fet B3 (by decide +kernel) (Or.inr rfl)
theorem f3_121 : zft 3 121 = some (.iastore, 1) := fet B3 (by decide +kernel) (Or.inr rfl)
theorem f3_122 : zft 3 122 = some (.aload_n 0, 1) := fet B3 (by decide +kernel) (Or.inr rfl)
theorem f3_123 : zft 3 123 = some (.aload_n 1, 1) := fet B3 (by decide +kernel) (Or.inr rfl)
theorem f3_124 : zft 3 124 = some (.iload_n 3, 1) := fet B3 (by decide +kernel) (Or.inr rfl)
theorem f3_125 : zft 3 125 = some (.iload 4, 2) := fet B3 (by decide +kernel) (Or.inr rfl)
theorem f3_127 : zft 3 127 = some (.invokevirtual 89, 3) := fet B3 (by decide +kernel) (Or.inr rfl)
theorem f3_130 : zft 3 130 = some (.ifCond .eq 42, 3) := fet B3 (by decide +kernel) (Or.inr rfl)
theorem f3_133 : zft 3 133 = some (.aload_n 1, 1) := fet B3 (by decide +kernel) (Or.inr rfl)
theorem f3_134 : zft 3 134 = some (.iconst 0, 1) := fet B3 (by decide +kernel) (Or.inr rfl)
theorem f3_135 : zft 3 135 = some (.iload_n 3, 1) := fet B3 (by decide +kernel) (Or.inr rfl)
theorem f3_136 : zft 3 136 = some (.iload 6, 2) := fet B3 (by decide +kernel) (Or.inr rfl)
theorem f3_138 : zft 3 138 = some (.iload 7, 2) := fet B3 (by decide +kernel) (Or.inr rfl)
theorem f3_140 : zft 3 140 = some (.invokevirtual 79, 3) := fet B3 (by decide +kernel) (Or.inr rfl)
theorem f3_143 : zft 3 143 = some (.ifCond .ne 29, 3) := fet B3 (by decide +kernel) (Or.inr rfl)
theorem f3_146 : zft 3 146 = some (.aload_n 0, 1) := fet B3 (by decide +kernel) (Or.inr rfl)
theorem f3_147 : zft 3 147 = some (.getfield 36, 3) := fet B3 (by decide +kernel) (Or.inr rfl)
theorem f3_150 : zft 3 150 = some (.iload_n 2, 1) := fet B3 (by decide +kernel) (Or.inr rfl)
theorem f3_151 : zft 3 151 = some (.iconst 1, 1) := fet B3 (by decide +kernel) (Or.inr rfl)
theorem f3_152 : zft 3 152 = some (.iastore, 1) := fet B3 (by decide +kernel) (Or.inr rfl)
theorem f3_153 : zft 3 153 = some (.aload_n 0, 1) := fet B3 (by decide +kernel) (Or.inr rfl)
theorem f3_154 : zft 3 154 = some (.getfield 30, 3) := fet B3 (by decide +kernel) (Or.inr rfl)
theorem f3_157 : zft 3 157 = some (.iload_n 3, 1) := fet B3 (by decide +kernel) (Or.inr rfl)
theorem f3_158 : zft 3 158 = some (.dup2, 1) := fet B3 (by decide +kernel) (Or.inr rfl)
theorem f3_159 : zft 3 159 = some (.iaload, 1) := fet B3 (by decide +kernel) (Or.inr rfl)
theorem f3_160 : zft 3 160 = some (.iconst 1, 1) := fet B3 (by decide +kernel) (Or.inr rfl)
theorem f3_161 : zft 3 161 = some (.iadd, 1) := fet B3 (by decide +kernel) (Or.inr rfl)
theorem f3_162 : zft 3 162 = some (.iastore, 1) := fet B3 (by decide +kernel) (Or.inr rfl)
theorem f3_163 : zft 3 163 = some (.aload_n 0, 1) := fet B3 (by decide +kernel) (Or.inr rfl)
theorem f3_164 : zft 3 164 = some (.iload 4, 2) := fet B3 (by decide +kernel) (Or.inr rfl)
theorem f3_166 : zft 3 166 = some (.iload_n 3, 1) := fet B3 (by decide +kernel) (Or.inr rfl)
theorem f3_167 : zft 3 167 = some (.iload 7, 2) := fet B3 (by decide +kernel) (Or.inr rfl)
theorem f3_169 : zft 3 169 = some (.invokevirtual 93, 3) := fet B3 (by decide +kernel) (Or.inr rfl)
theorem f3_172 : zft 3 172 = some (.aload_n 0, 1) := fet B3 (by decide +kernel) (Or.inr rfl)
theorem f3_173 : zft 3 173 = some (.getfield 24, 3) := fet B3 (by decide +kernel) (Or.inr rfl)
theorem f3_176 : zft 3 176 = some (.iload_n 3, 1) := fet B3 (by decide +kernel) (Or.inr rfl)
theorem f3_177 : zft 3 177 = some (.dup2, 1) := fet B3 (by decide +kernel) (Or.inr rfl)
theorem f3_178 : zft 3 178 = some (.iaload, 1) := fet B3 (by decide +kernel) (Or.inr rfl)
theorem f3_179 : zft 3 179 = some (.iload 5, 2) := fet B3 (by decide +kernel) (Or.inr rfl)
theorem f3_181 : zft 3 181 = some (.iadd, 1) := fet B3 (by decide +kernel) (Or.inr rfl)
theorem f3_182 : zft 3 182 = some (.iastore, 1) := fet B3 (by decide +kernel) (Or.inr rfl)
theorem f3_183 : zft 3 183 = some (.aload_n 0, 1) := fet B3 (by decide +kernel) (Or.inr rfl)
theorem f3_184 : zft 3 184 = some (.getfield 21, 3) := fet B3 (by decide +kernel) (Or.inr rfl)
theorem f3_187 : zft 3 187 = some (.iload_n 3, 1) := fet B3 (by decide +kernel) (Or.inr rfl)
theorem f3_188 : zft 3 188 = some (.dup2, 1) := fet B3 (by decide +kernel) (Or.inr rfl)
theorem f3_189 : zft 3 189 = some (.iaload, 1) := fet B3 (by decide +kernel) (Or.inr rfl)
theorem f3_190 : zft 3 190 = some (.iconst 1, 1) := fet B3 (by decide +kernel) (Or.inr rfl)
theorem f3_191 : zft 3 191 = some (.iadd, 1) := fet B3 (by decide +kernel) (Or.inr rfl)
theorem f3_192 : zft 3 192 = some (.iastore, 1) := fet B3 (by decide +kernel) (Or.inr rfl)
theorem f3_193 : zft 3 193 = some (.aload_n 0, 1) := fet B3 (by decide +kernel) (Or.inr rfl)
theorem f3_194 : zft 3 194 = some (.getfield 27, 3) := fet B3 (by decide +kernel) (Or.inr rfl)
theorem f3_197 : zft 3 197 = some (.iload_n 3, 1) := fet B3 (by decide +kernel) (Or.inr rfl)
theorem f3_198 : zft 3 198 = some (.iload 7, 2) := fet B3 (by decide +kernel) (Or.inr rfl)
theorem f3_200 : zft 3 200 = some (.iastore, 1) := fet B3 (by decide +kernel) (Or.inr rfl)
theorem f3_201 : zft 3 201 = some (.return_, 1) := fet B3 (by decide +kernel) (Or.inr rfl)
theorem x3_0 : Rn S 3 0 [v0, .ref q, v2, v3, v4, v5, v6, v7, v8, v9] st I J Q = Rn S 3 1 [v0, .ref q, v2, v3, v4, v5, v6, v7, v8, v9] (.ref q :: st) I J Q := rL f3_0 rfl rfl
theorem x3_1_8 : Rn (zG xl) 3 1 [v0, v1, v2, v3, v4, v5, v6, v7, v8, v9] (.ref 8 :: st) I J Q = Rn (zG xl) 3 4 [v0, v1, v2, v3, v4, v5, v6, v7, v8, v9] (.ref 13 :: st) I J Q := (rGf f3_1 rfl).trans (tr_and rfl)
theorem x3_1_28 : Rn (zG xl) 3 1 [v0, v1, v2, v3, v4, v5, v6, v7, v8, v9] (.ref 28 :: st) I J Q = Rn (zG xl) 3 4 [v0, v1, v2, v3, v4, v5, v6, v7, v8, v9] (.ref 33 :: st) I J Q := (rGf f3_1 rfl).trans (tr_and rfl)
theorem x3_4 : Rn S 3 4 [v0, v1, .int a, v3, v4, v5, v6, v7, v8, v9] st I J Q = Rn S 3 5 [v0, v1, .int a, v3, v4, v5, v6, v7, v8, v9] (.int a :: st) I J Q := rL f3_4 rfl rfl
theorem x3_5 : Rn S 3 5 [v0, v1, v2, v3, v4, v5, v6, v7, v8, v9] (.int a :: .ref q :: st) I J Q = (zai S q a ∧ Rn S 3 6 [v0, v1, v2, v3, v4, v5, v6, v7, v8, v9] (.int (I q a.toNatClampNeg) :: st) I J Q) := rIal f3_5
theorem x3_6 : Rn S 3 6 [v0, v1, v2, v3, v4, v5, v6, v7, v8, v9] (.int a :: st) I J Q = Rn S 3 7 [v0, v1, zkl v2, .int a, v4, v5, v6, v7, v8, v9] st I J Q := rL f3_6 rfl rfl
theorem x3_7 : Rn S 3 7 [v0, .ref q, v2, v3, v4, v5, v6, v7, v8, v9] st I J Q = Rn S 3 8 [v0, .ref q, v2, v3, v4, v5, v6, v7, v8, v9] (.ref q :: st) I J Q := rL f3_7 rfl rfl
theorem x3_8_8 : Rn (zG xl) 3 8 [v0, v1, v2, v3, v4, v5, v6, v7, v8, v9] (.ref 8 :: st) I J Q = Rn (zG xl) 3 11 [v0, v1, v2, v3, v4, v5, v6, v7, v8, v9] (.ref 14 :: st) I J Q := (rGf f3_8 rfl).trans (tr_and rfl)
theorem x3_8_28 : Rn (zG xl) 3 8 [v0, v1, v2, v3, v4, v5, v6, v7, v8, v9] (.ref 28 :: st) I J Q = Rn (zG xl) 3 11 [v0, v1, v2, v3, v4, v5, v6, v7, v8, v9] (.ref 34 :: st) I J Q := (rGf f3_8 rfl).trans (tr_and rfl)
theorem x3_11 : Rn S 3 11 [v0, v1, .int a, v3, v4, v5, v6, v7, v8, v9] st I J Q = Rn S 3 12 [v0, v1, .int a, v3, v4, v5, v6, v7, v8, v9] (.int a :: st) I J Q := rL f3_11 rfl rfl
theorem x3_12 : Rn S 3 12 [v0, v1, v2, v3, v4, v5, v6, v7, v8, v9] (.int a :: .ref q :: st) I J Q = (zai S q a ∧ Rn S 3 13 [v0, v1, v2, v3, v4, v5, v6, v7, v8, v9] (.int (I q a.toNatClampNeg) :: st) I J Q) := rIal f3_12
theorem x3_13 : Rn S 3 13 [v0, v1, v2, v3, v4, v5, v6, v7, v8, v9] (.int a :: st) I J Q = Rn S 3 15 [v0, v1, v2, zkl v3, .int a, v5, v6, v7, v8, v9] st I J Q := rL f3_13 rfl rfl
theorem x3_15 : Rn S 3 15 [v0, .ref q, v2, v3, v4, v5, v6, v7, v8, v9] st I J Q = Rn S 3 16 [v0, .ref q, v2, v3, v4, v5, v6, v7, v8, v9] (.ref q :: st) I J Q := rL f3_15 rfl rfl
theorem x3_16 : Rn S 3 16 [v0, v1, v2, .int a, v4, v5, v6, v7, v8, v9] st I J Q = Rn S 3 17 [v0, v1, v2, .int a, v4, v5, v6, v7, v8, v9] (.int a :: st) I J Q := rL f3_16 rfl rfl
theorem x3_17 : Rn S 3 17 [v0, v1, v2, v3, v4, v5, v6, v7, v8, v9] (.int a0 :: .ref q :: st) I J Q = ((zcls S q = 1 ∧ zcs st ≤ 8) ∧ Rn S 21 0 [.ref q, .int a0] [] I J (fun v I' J' => Rn S 3 20 [v0, v1, v2, v3, v4, v5, v6, v7, v8, v9] (v.toList ++ st) I' J' Q)) := rCV (As := [.int a0]) f3_17 rfl rfl rfl rfl (Nat.le_of_ble_eq_true rfl)
theorem x3_20 : Rn S 3 20 [v0, v1, v2, v3, v4, v5, v6, v7, v8, v9] (.int a :: st) I J Q = Rn S 3 22 [v0, v1, v2, v3, zkl v4, .int a, v6, v7, v8, v9] st I J Q := rL f3_20 rfl rfl
theorem x3_22 : Rn S 3 22 [.ref q, v1, v2, v3, v4, v5, v6, v7, v8, v9] st I J Q = Rn S 3 23 [.ref q, v1, v2, v3, v4, v5, v6, v7, v8, v9] (.ref q :: st) I J Q := rL f3_22 rfl rfl
theorem x3_23_18 : Rn (zG xl) 3 23 [v0, v1, v2, v3, v4, v5, v6, v7, v8, v9] (.ref 18 :: st) I J Q = Rn (zG xl) 3 26 [v0, v1, v2, v3, v4, v5, v6, v7, v8, v9] (.ref 22 :: st) I J Q := (rGf f3_23 rfl).trans (tr_and rfl)
theorem x3_23_38 : Rn (zG xl) 3 23 [v0, v1, v2, v3, v4, v5, v6, v7, v8, v9] (.ref 38 :: st) I J Q = Rn (zG xl) 3 26 [v0, v1, v2, v3, v4, v5, v6, v7, v8, v9] (.ref 42 :: st) I J Q := (rGf f3_23 rfl).trans (tr_and rfl)
theorem x3_26 : Rn S 3 26 [v0, v1, v2, .int a, v4, v5, v6, v7, v8, v9] st I J Q = Rn S 3 27 [v0, v1, v2, .int a, v4, v5, v6, v7, v8, v9] (.int a :: st) I J Q := rL f3_26 rfl rfl
theorem x3_27 : Rn S 3 27 [v0, v1, v2, v3, v4, v5, v6, v7, v8, v9] (.int a :: .ref q :: st) I J Q = (zai S q a ∧ Rn S 3 28 [v0, v1, v2, v3, v4, v5, v6, v7, v8, v9] (.int (I q a.toNatClampNeg) :: st) I J Q) := rIal f3_27
theorem x3_28 : Rn S 3 28 [v0, v1, v2, v3, v4, .int a, v6, v7, v8, v9] st I J Q = Rn S 3 30 [v0, v1, v2, v3, v4, .int a, v6, v7, v8, v9] (.int a :: st) I J Q := rL f3_28 rfl rfl
theorem x3_30 : Rn S 3 30 [v0, v1, v2, v3, v4, v5, v6, v7, v8, v9] (.int b :: .int a :: st) I J Q = Rn S 3 31 [v0, v1, v2, v3, v4, v5, v6, v7, v8, v9] (.int (a * b) :: st) I J Q := rS f3_30 rfl
theorem x3_31 : Rn S 3 31 [v0, v1, v2, v3, v4, v5, v6, v7, v8, v9] (.int a :: st) I J Q = Rn S 3 33 [v0, v1, v2, v3, v4, zkl v5, .int a, v7, v8, v9] st I J Q := rL f3_31 rfl rfl
theorem x3_33 : Rn S 3 33 [v0, v1, v2, v3, v4, v5, .int a, v7, v8, v9] st I J Q = Rn S 3 35 [v0, v1, v2, v3, v4, v5, .int a, v7, v8, v9] (.int a :: st) I J Q := rL f3_33 rfl rfl
theorem x3_35 : Rn S 3 35 [v0, v1, v2, v3, v4, .int a, v6, v7, v8, v9] st I J Q = Rn S 3 37 [v0, v1, v2, v3, v4, .int a, v6, v7, v8, v9] (.int a :: st) I J Q := rL f3_35 rfl rfl
theorem x3_37 : Rn S 3 37 [v0, v1, v2, v3, v4, v5, v6, v7, v8, v9] (.int b :: .int a :: st) I J Q = Rn S 3 38 [v0, v1, v2, v3, v4, v5, v6, v7, v8, v9] (.int (a + b) :: st) I J Q := rS f3_37 rfl
theorem x3_38 : Rn S 3 38 [v0, v1, v2, v3, v4, v5, v6, v7, v8, v9] st I J Q = Rn S 3 39 [v0, v1, v2, v3, v4, v5, v6, v7, v8, v9] (.int 1 :: st) I J Q := rS f3_38 rfl
theorem x3_39 : Rn S 3 39 [v0, v1, v2, v3, v4, v5, v6, v7, v8, v9] (.int b :: .int a :: st) I J Q = Rn S 3 40 [v0, v1, v2, v3, v4, v5, v6, v7, v8, v9] (.int (a - b) :: st) I J Q := rS f3_39 rfl
theorem x3_40 : Rn S 3 40 [v0, v1, v2, v3, v4, v5, v6, v7, v8, v9] (.int a :: st) I J Q = Rn S 3 42 [v0, v1, v2, v3, v4, v5, zkl v6, .int a, v8, v9] st I J Q := rL f3_40 rfl rfl
theorem x3_42 : Rn S 3 42 [v0, v1, v2, v3, v4, v5, v6, .int a, v8, v9] st I J Q = Rn S 3 44 [v0, v1, v2, v3, v4, v5, v6, .int a, v8, v9] (.int a :: st) I J Q := rL f3_42 rfl rfl
theorem x3_44 : Rn S 3 44 [v0, .ref q, v2, v3, v4, v5, v6, v7, v8, v9] st I J Q = Rn S 3 45 [v0, .ref q, v2, v3, v4, v5, v6, v7, v8, v9] (.ref q :: st) I J Q := rL f3_44 rfl rfl
theorem x3_45_8 : Rn (zG xl) 3 45 [v0, v1, v2, v3, v4, v5, v6, v7, v8, v9] (.ref 8 :: st) I J Q = Rn (zG xl) 3 48 [v0, v1, v2, v3, v4, v5, v6, v7, v8, v9] (.int (I 8 14) :: st) I J Q := (rGf f3_45 rfl).trans (tr_and rfl)
theorem x3_45_28 : Rn (zG xl) 3 45 [v0, v1, v2, v3, v4, v5, v6, v7, v8, v9] (.ref 28 :: st) I J Q = Rn (zG xl) 3 48 [v0, v1, v2, v3, v4, v5, v6, v7, v8, v9] (.int (I 28 14) :: st) I J Q := (rGf f3_45 rfl).trans (tr_and rfl)
theorem x3_48 : Rn S 3 48 [v0, v1, v2, v3, v4, v5, v6, v7, v8, v9] (.int b :: .int a :: st) I J Q = if a < b then Rn S 3 52 [v0, v1, v2, v3, v4, v5, v6, v7, v8, v9] st I J Q else Rn S 3 51 [v0, v1, v2, v3, v4, v5, v6, v7, v8, v9] st I J Q := rClt f3_48 rfl rfl
theorem x3_51 : Rn S 3 51 [v0, v1, v2, v3, v4, v5, v6, v7, v8, v9] [] I J Q = Q none I J := rR f3_51 rfl rfl rfl rfl rfl
theorem x3_52 : Rn S 3 52 [v0, v1, v2, v3, v4, v5, .int a, v7, v8, v9] st I J Q = Rn S 3 54 [v0, v1, v2, v3, v4, v5, .int a, v7, v8, v9] (.int a :: st) I J Q := rL f3_52 rfl rfl
theorem x3_54 : Rn S 3 54 [v0, v1, v2, v3, v4, v5, v6, v7, v8, v9] (.int a :: st) I J Q = if a = 0 then Rn S 3 57 [v0, v1, v2, v3, v4, v5, v6, v7, v8, v9] st I J Q else Rn S 3 61 [v0, v1, v2, v3, v4, v5, v6, v7, v8, v9] st I J Q := rIne f3_54 rfl rfl
theorem x3_57 : Rn S 3 57 [v0, v1, v2, v3, v4, v5, v6, v7, v8, v9] st I J Q = Rn S 3 58 [v0, v1, v2, v3, v4, v5, v6, v7, v8, v9] (.int 0 :: st) I J Q := rS f3_57 rfl
theorem x3_58 : Rn S 3 58 [v0, v1, v2, v3, v4, v5, v6, v7, v8, v9] st I J Q = Rn S 3 68 [v0, v1, v2, v3, v4, v5, v6, v7, v8, v9] st I J Q := rB f3_58 rfl rfl rfl
theorem x3_61 : Rn S 3 61 [v0, v1, v2, v3, v4, v5, .int a, v7, v8, v9] st I J Q = Rn S 3 63 [v0, v1, v2, v3, v4, v5, .int a, v7, v8, v9] (.int a :: st) I J Q := rL f3_61 rfl rfl
theorem x3_63 : Rn S 3 63 [v0, v1, v2, v3, v4, .int a, v6, v7, v8, v9] st I J Q = Rn S 3 65 [v0, v1, v2, v3, v4, .int a, v6, v7, v8, v9] (.int a :: st) I J Q := rL f3_63 rfl rfl
theorem x3_65 : Rn S 3 65 [v0, v1, v2, v3, v4, v5, v6, v7, v8, v9] (.int b :: .int a :: st) I J Q = Rn S 3 66 [v0, v1, v2, v3, v4, v5, v6, v7, v8, v9] (.int (a - b) :: st) I J Q := rS f3_65 rfl
theorem x3_66 : Rn S 3 66 [v0, v1, v2, v3, v4, v5, v6, v7, v8, v9] st I J Q = Rn S 3 67 [v0, v1, v2, v3, v4, v5, v6, v7, v8, v9] (.int 1 :: st) I J Q := rS f3_66 rfl
theorem x3_67 : Rn S 3 67 [v0, v1, v2, v3, v4, v5, v6, v7, v8, v9] (.int b :: .int a :: st) I J Q = Rn S 3 68 [v0, v1, v2, v3, v4, v5, v6, v7, v8, v9] (.int (a + b) :: st) I J Q := rS f3_67 rfl
theorem x3_68 : Rn S 3 68 [v0, v1, v2, v3, v4, v5, v6, v7, v8, v9] (.int a :: st) I J Q = Rn S 3 70 [v0, v1, v2, v3, v4, v5, v6, zkl v7, .int a, v9] st I J Q := rL f3_68 rfl rfl
theorem x3_70 : Rn S 3 70 [v0, .ref q, v2, v3, v4, v5, v6, v7, v8, v9] st I J Q = Rn S 3 71 [v0, .ref q, v2, v3, v4, v5, v6, v7, v8, v9] (.ref q :: st) I J Q := rL f3_70 rfl rfl
theorem x3_71 : Rn S 3 71 [v0, v1, v2, v3, v4, v5, v6, v7, v8, v9] st I J Q = Rn S 3 72 [v0, v1, v2, v3, v4, v5, v6, v7, v8, v9] (.int 1 :: st) I J Q := rS f3_71 rfl
theorem x3_72 : Rn S 3 72 [v0, v1, v2, .int a, v4, v5, v6, v7, v8, v9] st I J Q = Rn S 3 73 [v0, v1, v2, .int a, v4, v5, v6, v7, v8, v9] (.int a :: st) I J Q := rL f3_72 rfl rfl
theorem x3_73 : Rn S 3 73 [v0, v1, v2, v3, v4, v5, v6, v7, .int a, v9] st I J Q = Rn S 3 75 [v0, v1, v2, v3, v4, v5, v6, v7, .int a, v9] (.int a :: st) I J Q := rL f3_73 rfl rfl
theorem x3_75 : Rn S 3 75 [v0, v1, v2, v3, v4, v5, .int a, v7, v8, v9] st I J Q = Rn S 3 77 [v0, v1, v2, v3, v4, v5, .int a, v7, v8, v9] (.int a :: st) I J Q := rL f3_75 rfl rfl
theorem x3_77 : Rn S 3 77 [v0, v1, v2, v3, v4, v5, v6, v7, v8, v9] (.int a3 :: .int a2 :: .int a1 :: .int a0 :: .ref q :: st) I J Q = ((zcls S q = 1 ∧ zcs st ≤ 8) ∧ Rn S 20 0 [.ref q, .int a0, .int a1, .int a2, .int a3, .null, .null, .null, .null] [] I J (fun v I' J' => Rn S 3 80 [v0, v1, v2, v3, v4, v5, v6, v7, v8, v9] (v.toList ++ st) I' J' Q)) := rCV (As := [.int a0, .int a1, .int a2, .int a3]) f3_77 rfl rfl rfl rfl (Nat.le_of_ble_eq_true rfl)
theorem x3_80 : Rn S 3 80 [v0, v1, v2, v3, v4, v5, v6, v7, v8, v9] (.int a :: st) I J Q = Rn S 3 82 [v0, v1, v2, v3, v4, v5, v6, v7, zkl v8, .int a] st I J Q := rL f3_80 rfl rfl
theorem x3_82 : Rn S 3 82 [.ref q, v1, v2, v3, v4, v5, v6, v7, v8, v9] st I J Q = Rn S 3 83 [.ref q, v1, v2, v3, v4, v5, v6, v7, v8, v9] (.ref q :: st) I J Q := rL f3_82 rfl rfl
theorem x3_83_18 : Rn (zG xl) 3 83 [v0, v1, v2, v3, v4, v5, v6, v7, v8, v9] (.ref 18 :: st) I J Q = Rn (zG xl) 3 86 [v0, v1, v2, v3, v4, v5, v6, v7, v8, v9] (.ref 23 :: st) I J Q := (rGf f3_83 rfl).trans (tr_and rfl)
theorem x3_83_38 : Rn (zG xl) 3 83 [v0, v1, v2, v3, v4, v5, v6, v7, v8, v9] (.ref 38 :: st) I J Q = Rn (zG xl) 3 86 [v0, v1, v2, v3, v4, v5, v6, v7, v8, v9] (.ref 43 :: st) I J Q := (rGf f3_83 rfl).trans (tr_and rfl)
theorem x3_86 : Rn S 3 86 [v0, v1, v2, .int a, v4, v5, v6, v7, v8, v9] st I J Q = Rn S 3 87 [v0, v1, v2, .int a, v4, v5, v6, v7, v8, v9] (.int a :: st) I J Q := rL f3_86 rfl rfl
theorem x3_87 : Rn S 3 87 [v0, v1, v2, v3, v4, v5, v6, v7, v8, v9] st I J Q = Rn S 3 88 [v0, v1, v2, v3, v4, v5, v6, v7, v8, v9] (.int 0 :: st) I J Q := rS f3_87 rfl
theorem x3_88 : Rn S 3 88 [.ref q, v1, v2, v3, v4, v5, v6, v7, v8, v9] st I J Q = Rn S 3 89 [.ref q, v1, v2, v3, v4, v5, v6, v7, v8, v9] (.ref q :: st) I J Q := rL f3_88 rfl rfl
theorem x3_89_18 : Rn (zG xl) 3 89 [v0, v1, v2, v3, v4, v5, v6, v7, v8, v9] (.ref 18 :: st) I J Q = Rn (zG xl) 3 92 [v0, v1, v2, v3, v4, v5, v6, v7, v8, v9] (.ref 23 :: st) I J Q := (rGf f3_89 rfl).trans (tr_and rfl)
theorem x3_89_38 : Rn (zG xl) 3 89 [v0, v1, v2, v3, v4, v5, v6, v7, v8, v9] (.ref 38 :: st) I J Q = Rn (zG xl) 3 92 [v0, v1, v2, v3, v4, v5, v6, v7, v8, v9] (.ref 43 :: st) I J Q := (rGf f3_89 rfl).trans (tr_and rfl)
theorem x3_92 : Rn S 3 92 [v0, v1, v2, .int a, v4, v5, v6, v7, v8, v9] st I J Q = Rn S 3 93 [v0, v1, v2, .int a, v4, v5, v6, v7, v8, v9] (.int a :: st) I J Q := rL f3_92 rfl rfl
theorem x3_93 : Rn S 3 93 [v0, v1, v2, v3, v4, v5, v6, v7, v8, v9] (.int a :: .ref q :: st) I J Q = (zai S q a ∧ Rn S 3 94 [v0, v1, v2, v3, v4, v5, v6, v7, v8, v9] (.int (I q a.toNatClampNeg) :: st) I J Q) := rIal f3_93
theorem x3_94 : Rn S 3 94 [v0, v1, v2, v3, v4, v5, v6, v7, v8, v9] st I J Q = Rn S 3 95 [v0, v1, v2, v3, v4, v5, v6, v7, v8, v9] (.int 3 :: st) I J Q := rS f3_94 rfl
theorem x3_95 : Rn S 3 95 [v0, v1, v2, v3, v4, v5, v6, v7, v8, .int a] st I J Q = Rn S 3 97 [v0, v1, v2, v3, v4, v5, v6, v7, v8, .int a] (.int a :: st) I J Q := rL f3_95 rfl rfl
theorem x3_97 : Rn S 3 97 [v0, v1, v2, v3, v4, v5, v6, v7, v8, v9] (.int b :: .int a :: st) I J Q = Rn S 3 98 [v0, v1, v2, v3, v4, v5, v6, v7, v8, v9] (.int (a * b) :: st) I J Q := rS f3_97 rfl
theorem x3_98 : Rn S 3 98 [v0, v1, v2, v3, v4, v5, v6, v7, v8, v9] (.int b :: .int a :: st) I J Q = Rn S 3 99 [v0, v1, v2, v3, v4, v5, v6, v7, v8, v9] (.int (a - b) :: st) I J Q := rS f3_98 rfl
theorem x3_99 : Rn S 3 99 [v0, v1, v2, v3, v4, v5, v6, v7, v8, v9] (.int b :: .int a :: st) I J Q = (zcs st ≤ 8 ∧ Rn S 3 102 [v0, v1, v2, v3, v4, v5, v6, v7, v8, v9] (.int (if a < b then b else a) :: st) I J Q) := rMx f3_99 rfl rfl ⟨Nat.le_of_ble_eq_true rfl, Nat.le_of_ble_eq_true rfl⟩
theorem x3_102 : Rn S 3 102 [v0, v1, v2, v3, v4, v5, v6, v7, v8, v9] (.int b :: .int a :: .ref q :: st) I J Q = (zas S q a ∧ Rn S 3 103 [v0, v1, v2, v3, v4, v5, v6, v7, v8, v9] st (zr I q (upd (I q) a.toNatClampNeg b)) J Q) := rIas f3_102
theorem x3_103 : Rn S 3 103 [.ref q, v1, v2, v3, v4, v5, v6, v7, v8, v9] st I J Q = Rn S 3 104 [.ref q, v1, v2, v3, v4, v5, v6, v7, v8, v9] (.ref q :: st) I J Q := rL f3_103 rfl rfl
theorem x3_104_18 : Rn (zG xl) 3 104 [v0, v1, v2, v3, v4, v5, v6, v7, v8, v9] (.ref 18 :: st) I J Q = Rn (zG xl) 3 107 [v0, v1, v2, v3, v4, v5, v6, v7, v8, v9] (.ref 26 :: st) I J Q := (rGf f3_104 rfl).trans (tr_and rfl)
theorem x3_104_38 : Rn (zG xl) 3 104 [v0, v1, v2, v3, v4, v5, v6, v7, v8, v9] (.ref 38 :: st) I J Q = Rn (zG xl) 3 107 [v0, v1, v2, v3, v4, v5, v6, v7, v8, v9] (.ref 46 :: st) I J Q := (rGf f3_104 rfl).trans (tr_and rfl)
theorem x3_107 : Rn S 3 107 [v0, v1, .int a, v3, v4, v5, v6, v7, v8, v9] st I J Q = Rn S 3 108 [v0, v1, .int a, v3, v4, v5, v6, v7, v8, v9] (.int a :: st) I J Q := rL f3_107 rfl rfl
theorem x3_108 : Rn S 3 108 [v0, v1, v2, v3, v4, v5, .int a, v7, v8, v9] st I J Q = Rn S 3 110 [v0, v1, v2, v3, v4, v5, .int a, v7, v8, v9] (.int a :: st) I J Q := rL f3_108 rfl rfl
theorem x3_110 : Rn S 3 110 [v0, v1, v2, v3, v4, v5, v6, v7, v8, v9] (.int b :: .int a :: .ref q :: st) I J Q = (zas S q a ∧ Rn S 3 111 [v0, v1, v2, v3, v4, v5, v6, v7, v8, v9] st (zr I q (upd (I q) a.toNatClampNeg b)) J Q) := rIas f3_110
theorem x3_111 : Rn S 3 111 [.ref q, v1, v2, v3, v4, v5, v6, v7, v8, v9] st I J Q = Rn S 3 112 [.ref q, v1, v2, v3, v4, v5, v6, v7, v8, v9] (.ref q :: st) I J Q := rL f3_111 rfl rfl
theorem x3_112_18 : Rn (zG xl) 3 112 [v0, v1, v2, v3, v4, v5, v6, v7, v8, v9] (.ref 18 :: st) I J Q = Rn (zG xl) 3 115 [v0, v1, v2, v3, v4, v5, v6, v7, v8, v9] (.ref 21 :: st) I J Q := (rGf f3_112 rfl).trans (tr_and rfl)
theorem x3_112_38 : Rn (zG xl) 3 112 [v0, v1, v2, v3, v4, v5, v6, v7, v8, v9] (.ref 38 :: st) I J Q = Rn (zG xl) 3 115 [v0, v1, v2, v3, v4, v5, v6, v7, v8, v9] (.ref 41 :: st) I J Q := (rGf f3_112 rfl).trans (tr_and rfl)
theorem x3_115 : Rn S 3 115 [v0, v1, v2, v3, .int a, v5, v6, v7, v8, v9] st I J Q = Rn S 3 117 [v0, v1, v2, v3, .int a, v5, v6, v7, v8, v9] (.int a :: st) I J Q := rL f3_115 rfl rfl
theorem x3_117 : Rn S 3 117 [v0, v1, v2, v3, v4, v5, v6, v7, v8, v9] (.int a :: .ref q :: st) I J Q = Rn S 3 118 [v0, v1, v2, v3, v4, v5, v6, v7, v8, v9] (.int a :: .ref q :: .int a :: .ref q :: st) I J Q := rS f3_117 rfl
theorem x3_118 : Rn S 3 118 [v0, v1, v2, v3, v4, v5, v6, v7, v8, v9] (.int a :: .ref q :: st) I J Q = (zai S q a ∧ Rn S 3 119 [v0, v1, v2, v3, v4, v5, v6, v7, v8, v9] (.int (I q a.toNatClampNeg) :: st) I J Q) := rIal f3_118
theorem x3_119 : Rn S 3 119 [v0, v1, v2, v3, v4, v5, v6, v7, v8, v9] st I J Q = Rn S 3 120 [v0, v1, v2, v3, v4, v5, v6, v7, v8, v9] (.int 1 :: st) I J Q := rS f3_119 rfl
theorem x3_120 : Rn S 3 120 [v0, v1, v2, v3, v4, v5, v6, v7, v8, v9] (.int b :: .int a :: st) I J Q = Rn S 3 121 [v0, v1, v2, v3, v4, v5, v6, v7, v8, v9] (.int (a + b) :: st) I J Q := rS f3_120 rfl
theorem x3_121 : Rn S 3 121 [v0, v1, v2, v3, v4, v5, v6, v7, v8, v9] (.int b :: .int a :: .ref q :: st) I J Q = (zas S q a ∧ Rn S 3 122 [v0, v1, v2, v3, v4, v5, v6, v7, v8, v9] st (zr I q (upd (I q) a.toNatClampNeg b)) J Q) := rIas f3_121
theorem x3_122 : Rn S 3 122 [.ref q, v1, v2, v3, v4, v5, v6, v7, v8, v9] st I J Q = Rn S 3 123 [.ref q, v1, v2, v3, v4, v5, v6, v7, v8, v9] (.ref q :: st) I J Q := rL f3_122 rfl rfl
theorem x3_123 : Rn S 3 123 [v0, .ref q, v2, v3, v4, v5, v6, v7, v8, v9] st I J Q = Rn S 3 124 [v0, .ref q, v2, v3, v4, v5, v6, v7, v8, v9] (.ref q :: st) I J Q := rL f3_123 rfl rfl
theorem x3_124 : Rn S 3 124 [v0, v1, v2, .int a, v4, v5, v6, v7, v8, v9] st I J Q = Rn S 3 125 [v0, v1, v2, .int a, v4, v5, v6, v7, v8, v9] (.int a :: st) I J Q := rL f3_124 rfl rfl
theorem x3_125 : Rn S 3 125 [v0, v1, v2, v3, .int a, v5, v6, v7, v8, v9] st I J Q = Rn S 3 127 [v0, v1, v2, v3, .int a, v5, v6, v7, v8, v9] (.int a :: st) I J Q := rL f3_125 rfl rfl
theorem x3_127 : Rn S 3 127 [v0, v1, v2, v3, v4, v5, v6, v7, v8, v9] (.int a2 :: .int a1 :: .ref q0 :: .ref q :: st) I J Q = ((zcls S q = 0 ∧ zcs st ≤ 8) ∧ Rn S 4 0 [.ref q, .ref q0, .int a1, .int a2, .null, .null] [] I J (fun v I' J' => Rn S 3 130 [v0, v1, v2, v3, v4, v5, v6, v7, v8, v9] (v.toList ++ st) I' J' Q)) := rCV (As := [.ref q0, .int a1, .int a2]) f3_127 rfl rfl rfl rfl (Nat.le_of_ble_eq_true rfl)
theorem x3_130 : Rn S 3 130 [v0, v1, v2, v3, v4, v5, v6, v7, v8, v9] (.int a :: st) I J Q = if a = 0 then Rn S 3 172 [v0, v1, v2, v3, v4, v5, v6, v7, v8, v9] st I J Q else Rn S 3 133 [v0, v1, v2, v3, v4, v5, v6, v7, v8, v9] st I J Q := rIeq f3_130 rfl rfl
theorem x3_133 : Rn S 3 133 [v0, .ref q, v2, v3, v4, v5, v6, v7, v8, v9] st I J Q = Rn S 3 134 [v0, .ref q, v2, v3, v4, v5, v6, v7, v8, v9] (.ref q :: st) I J Q := rL f3_133 rfl rfl
theorem x3_134 : Rn S 3 134 [v0, v1, v2, v3, v4, v5, v6, v7, v8, v9] st I J Q = Rn S 3 135 [v0, v1, v2, v3, v4, v5, v6, v7, v8, v9] (.int 0 :: st) I J Q := rS f3_134 rfl
theorem x3_135 : Rn S 3 135 [v0, v1, v2, .int a, v4, v5, v6, v7, v8, v9] st I J Q = Rn S 3 136 [v0, v1, v2, .int a, v4, v5, v6, v7, v8, v9] (.int a :: st) I J Q := rL f3_135 rfl rfl
theorem x3_136 : Rn S 3 136 [v0, v1, v2, v3, v4, v5, .int a, v7, v8, v9] st I J Q = Rn S 3 138 [v0, v1, v2, v3, v4, v5, .int a, v7, v8, v9] (.int a :: st) I J Q := rL f3_136 rfl rfl
theorem x3_138 : Rn S 3 138 [v0, v1, v2, v3, v4, v5, v6, .int a, v8, v9] st I J Q = Rn S 3 140 [v0, v1, v2, v3, v4, v5, v6, .int a, v8, v9] (.int a :: st) I J Q := rL f3_138 rfl rfl
theorem x3_140 : Rn S 3 140 [v0, v1, v2, v3, v4, v5, v6, v7, v8, v9] (.int a3 :: .int a2 :: .int a1 :: .int a0 :: .ref q :: st) I J Q = ((zcls S q = 1 ∧ zcs st ≤ 8) ∧ Rn S 20 0 [.ref q, .int a0, .int a1, .int a2, .int a3, .null, .null, .null, .null] [] I J (fun v I' J' => Rn S 3 143 [v0, v1, v2, v3, v4, v5, v6, v7, v8, v9] (v.toList ++ st) I' J' Q)) := rCV (As := [.int a0, .int a1, .int a2, .int a3]) f3_140 rfl rfl rfl rfl (Nat.le_of_ble_eq_true rfl)
theorem x3_143 : Rn S 3 143 [v0, v1, v2, v3, v4, v5, v6, v7, v8, v9] (.int a :: st) I J Q = if a = 0 then Rn S 3 146 [v0, v1, v2, v3, v4, v5, v6, v7, v8, v9] st I J Q else Rn S 3 172 [v0, v1, v2, v3, v4, v5, v6, v7, v8, v9] st I J Q := rIne f3_143 rfl rfl
theorem x3_146 : Rn S 3 146 [.ref q, v1, v2, v3, v4, v5, v6, v7, v8, v9] st I J Q = Rn S 3 147 [.ref q, v1, v2, v3, v4, v5, v6, v7, v8, v9] (.ref q :: st) I J Q := rL f3_146 rfl rfl
theorem x3_147_18 : Rn (zG xl) 3 147 [v0, v1, v2, v3, v4, v5, v6, v7, v8, v9] (.ref 18 :: st) I J Q = Rn (zG xl) 3 150 [v0, v1, v2, v3, v4, v5, v6, v7, v8, v9] (.ref 27 :: st) I J Q := (rGf f3_147 rfl).trans (tr_and rfl)
theorem x3_147_38 : Rn (zG xl) 3 147 [v0, v1, v2, v3, v4, v5, v6, v7, v8, v9] (.ref 38 :: st) I J Q = Rn (zG xl) 3 150 [v0, v1, v2, v3, v4, v5, v6, v7, v8, v9] (.ref 47 :: st) I J Q := (rGf f3_147 rfl).trans (tr_and rfl)
theorem x3_150 : Rn S 3 150 [v0, v1, .int a, v3, v4, v5, v6, v7, v8, v9] st I J Q = Rn S 3 151 [v0, v1, .int a, v3, v4, v5, v6, v7, v8, v9] (.int a :: st) I J Q := rL f3_150 rfl rfl
theorem x3_151 : Rn S 3 151 [v0, v1, v2, v3, v4, v5, v6, v7, v8, v9] st I J Q = Rn S 3 152 [v0, v1, v2, v3, v4, v5, v6, v7, v8, v9] (.int 1 :: st) I J Q := rS f3_151 rfl
theorem x3_152 : Rn S 3 152 [v0, v1, v2, v3, v4, v5, v6, v7, v8, v9] (.int b :: .int a :: .ref q :: st) I J Q = (zas S q a ∧ Rn S 3 153 [v0, v1, v2, v3, v4, v5, v6, v7, v8, v9] st (zr I q (upd (I q) a.toNatClampNeg b)) J Q) := rIas f3_152
theorem x3_153 : Rn S 3 153 [.ref q, v1, v2, v3, v4, v5, v6, v7, v8, v9] st I J Q = Rn S 3 154 [.ref q, v1, v2, v3, v4, v5, v6, v7, v8, v9] (.ref q :: st) I J Q := rL f3_153 rfl rfl
theorem x3_154_18 : Rn (zG xl) 3 154 [v0, v1, v2, v3, v4, v5, v6, v7, v8, v9] (.ref 18 :: st) I J Q = Rn (zG xl) 3 157 [v0, v1, v2, v3, v4, v5, v6, v7, v8, v9] (.ref 25 :: st) I J Q := (rGf f3_154 rfl).trans (tr_and rfl)
theorem x3_154_38 : Rn (zG xl) 3 154 [v0, v1, v2, v3, v4, v5, v6, v7, v8, v9] (.ref 38 :: st) I J Q = Rn (zG xl) 3 157 [v0, v1, v2, v3, v4, v5, v6, v7, v8, v9] (.ref 45 :: st) I J Q := (rGf f3_154 rfl).trans (tr_and rfl)
theorem x3_157 : Rn S 3 157 [v0, v1, v2, .int a, v4, v5, v6, v7, v8, v9] st I J Q = Rn S 3 158 [v0, v1, v2, .int a, v4, v5, v6, v7, v8, v9] (.int a :: st) I J Q := rL f3_157 rfl rfl
theorem x3_158 : Rn S 3 158 [v0, v1, v2, v3, v4, v5, v6, v7, v8, v9] (.int a :: .ref q :: st) I J Q = Rn S 3 159 [v0, v1, v2, v3, v4, v5, v6, v7, v8, v9] (.int a :: .ref q :: .int a :: .ref q :: st) I J Q := rS f3_158 rfl
theorem x3_159 : Rn S 3 159 [v0, v1, v2, v3, v4, v5, v6, v7, v8, v9] (.int a :: .ref q :: st) I J Q = (zai S q a ∧ Rn S 3 160 [v0, v1, v2, v3, v4, v5, v6, v7, v8, v9] (.int (I q a.toNatClampNeg) :: st) I J Q) := rIal f3_159
theorem x3_160 : Rn S 3 160 [v0, v1, v2, v3, v4, v5, v6, v7, v8, v9] st I J Q = Rn S 3 161 [v0, v1, v2, v3, v4, v5, v6, v7, v8, v9] (.int 1 :: st) I J Q := rS f3_160 rfl
theorem x3_161 : Rn S 3 161 [v0, v1, v2, v3, v4, v5, v6, v7, v8, v9] (.int b :: .int a :: st) I J Q = Rn S 3 162 [v0, v1, v2, v3, v4, v5, v6, v7, v8, v9] (.int (a + b) :: st) I J Q := rS f3_161 rfl
theorem x3_162 : Rn S 3 162 [v0, v1, v2, v3, v4, v5, v6, v7, v8, v9] (.int b :: .int a :: .ref q :: st) I J Q = (zas S q a ∧ Rn S 3 163 [v0, v1, v2, v3, v4, v5, v6, v7, v8, v9] st (zr I q (upd (I q) a.toNatClampNeg b)) J Q) := rIas f3_162
theorem x3_163 : Rn S 3 163 [.ref q, v1, v2, v3, v4, v5, v6, v7, v8, v9] st I J Q = Rn S 3 164 [.ref q, v1, v2, v3, v4, v5, v6, v7, v8, v9] (.ref q :: st) I J Q := rL f3_163 rfl rfl
theorem x3_164 : Rn S 3 164 [v0, v1, v2, v3, .int a, v5, v6, v7, v8, v9] st I J Q = Rn S 3 166 [v0, v1, v2, v3, .int a, v5, v6, v7, v8, v9] (.int a :: st) I J Q := rL f3_164 rfl rfl
theorem x3_166 : Rn S 3 166 [v0, v1, v2, .int a, v4, v5, v6, v7, v8, v9] st I J Q = Rn S 3 167 [v0, v1, v2, .int a, v4, v5, v6, v7, v8, v9] (.int a :: st) I J Q := rL f3_166 rfl rfl
theorem x3_167 : Rn S 3 167 [v0, v1, v2, v3, v4, v5, v6, .int a, v8, v9] st I J Q = Rn S 3 169 [v0, v1, v2, v3, v4, v5, v6, .int a, v8, v9] (.int a :: st) I J Q := rL f3_167 rfl rfl
theorem x3_169 : Rn S 3 169 [v0, v1, v2, v3, v4, v5, v6, v7, v8, v9] (.int a2 :: .int a1 :: .int a0 :: .ref q :: st) I J Q = ((zcls S q = 0 ∧ zcs st ≤ 8) ∧ Rn S 5 0 [.ref q, .int a0, .int a1, .int a2, .null] [] I J (fun v I' J' => Rn S 3 172 [v0, v1, v2, v3, v4, v5, v6, v7, v8, v9] (v.toList ++ st) I' J' Q)) := rCV (As := [.int a0, .int a1, .int a2]) f3_169 rfl rfl rfl rfl (Nat.le_of_ble_eq_true rfl)
theorem x3_172 : Rn S 3 172 [.ref q, v1, v2, v3, v4, v5, v6, v7, v8, v9] st I J Q = Rn S 3 173 [.ref q, v1, v2, v3, v4, v5, v6, v7, v8, v9] (.ref q :: st) I J Q := rL f3_172 rfl rfl
theorem x3_173_18 : Rn (zG xl) 3 173 [v0, v1, v2, v3, v4, v5, v6, v7, v8, v9] (.ref 18 :: st) I J Q = Rn (zG xl) 3 176 [v0, v1, v2, v3, v4, v5, v6, v7, v8, v9] (.ref 23 :: st) I J Q := (rGf f3_173 rfl).trans (tr_and rfl)
theorem x3_173_38 : Rn (zG xl) 3 173 [v0, v1, v2, v3, v4, v5, v6, v7, v8, v9] (.ref 38 :: st) I J Q = Rn (zG xl) 3 176 [v0, v1, v2, v3, v4, v5, v6, v7, v8, v9] (.ref 43 :: st) I J Q := (rGf f3_173 rfl).trans (tr_and rfl)
theorem x3_176 : Rn S 3 176 [v0, v1, v2, .int a, v4, v5, v6, v7, v8, v9] st I J Q = Rn S 3 177 [v0, v1, v2, .int a, v4, v5, v6, v7, v8, v9] (.int a :: st) I J Q := rL f3_176 rfl rfl
theorem x3_177 : Rn S 3 177 [v0, v1, v2, v3, v4, v5, v6, v7, v8, v9] (.int a :: .ref q :: st) I J Q = Rn S 3 178 [v0, v1, v2, v3, v4, v5, v6, v7, v8, v9] (.int a :: .ref q :: .int a :: .ref q :: st) I J Q := rS f3_177 rfl
theorem x3_178 : Rn S 3 178 [v0, v1, v2, v3, v4, v5, v6, v7, v8, v9] (.int a :: .ref q :: st) I J Q = (zai S q a ∧ Rn S 3 179 [v0, v1, v2, v3, v4, v5, v6, v7, v8, v9] (.int (I q a.toNatClampNeg) :: st) I J Q) := rIal f3_178
theorem x3_179 : Rn S 3 179 [v0, v1, v2, v3, v4, .int a, v6, v7, v8, v9] st I J Q = Rn S 3 181 [v0, v1, v2, v3, v4, .int a, v6, v7, v8, v9] (.int a :: st) I J Q := rL f3_179 rfl rfl
theorem x3_181 : Rn S 3 181 [v0, v1, v2, v3, v4, v5, v6, v7, v8, v9] (.int b :: .int a :: st) I J Q = Rn S 3 182 [v0, v1, v2, v3, v4, v5, v6, v7, v8, v9] (.int (a + b) :: st) I J Q := rS f3_181 rfl
theorem x3_182 : Rn S 3 182 [v0, v1, v2, v3, v4, v5, v6, v7, v8, v9] (.int b :: .int a :: .ref q :: st) I J Q = (zas S q a ∧ Rn S 3 183 [v0, v1, v2, v3, v4, v5, v6, v7, v8, v9] st (zr I q (upd (I q) a.toNatClampNeg b)) J Q) := rIas f3_182
theorem x3_183 : Rn S 3 183 [.ref q, v1, v2, v3, v4, v5, v6, v7, v8, v9] st I J Q = Rn S 3 184 [.ref q, v1, v2, v3, v4, v5, v6, v7, v8, v9] (.ref q :: st) I J Q := rL f3_183 rfl rfl
theorem x3_184_18 : Rn (zG xl) 3 184 [v0, v1, v2, v3, v4, v5, v6, v7, v8, v9] (.ref 18 :: st) I J Q = Rn (zG xl) 3 187 [v0, v1, v2, v3, v4, v5, v6, v7, v8, v9] (.ref 22 :: st) I J Q := (rGf f3_184 rfl).trans (tr_and rfl)
theorem x3_184_38 : Rn (zG xl) 3 184 [v0, v1, v2, v3, v4, v5, v6, v7, v8, v9] (.ref 38 :: st) I J Q = Rn (zG xl) 3 187 [v0, v1, v2, v3, v4, v5, v6, v7, v8, v9] (.ref 42 :: st) I J Q := (rGf f3_184 rfl).trans (tr_and rfl)
theorem x3_187 : Rn S 3 187 [v0, v1, v2, .int a, v4, v5, v6, v7, v8, v9] st I J Q = Rn S 3 188 [v0, v1, v2, .int a, v4, v5, v6, v7, v8, v9] (.int a :: st) I J Q := rL f3_187 rfl rfl
theorem x3_188 : Rn S 3 188 [v0, v1, v2, v3, v4, v5, v6, v7, v8, v9] (.int a :: .ref q :: st) I J Q = Rn S 3 189 [v0, v1, v2, v3, v4, v5, v6, v7, v8, v9] (.int a :: .ref q :: .int a :: .ref q :: st) I J Q := rS f3_188 rfl
theorem x3_189 : Rn S 3 189 [v0, v1, v2, v3, v4, v5, v6, v7, v8, v9] (.int a :: .ref q :: st) I J Q = (zai S q a ∧ Rn S 3 190 [v0, v1, v2, v3, v4, v5, v6, v7, v8, v9] (.int (I q a.toNatClampNeg) :: st) I J Q) := rIal f3_189
theorem x3_190 : Rn S 3 190 [v0, v1, v2, v3, v4, v5, v6, v7, v8, v9] st I J Q = Rn S 3 191 [v0, v1, v2, v3, v4, v5, v6, v7, v8, v9] (.int 1 :: st) I J Q := rS f3_190 rfl
theorem x3_191 : Rn S 3 191 [v0, v1, v2, v3, v4, v5, v6, v7, v8, v9] (.int b :: .int a :: st) I J Q = Rn S 3 192 [v0, v1, v2, v3, v4, v5, v6, v7, v8, v9] (.int (a + b) :: st) I J Q := rS f3_191 rfl
theorem x3_192 : Rn S 3 192 [v0, v1, v2, v3, v4, v5, v6, v7, v8, v9] (.int b :: .int a :: .ref q :: st) I J Q = (zas S q a ∧ Rn S 3 193 [v0, v1, v2, v3, v4, v5, v6, v7, v8, v9] st (zr I q (upd (I q) a.toNatClampNeg b)) J Q) := rIas f3_192
theorem x3_193 : Rn S 3 193 [.ref q, v1, v2, v3, v4, v5, v6, v7, v8, v9] st I J Q = Rn S 3 194 [.ref q, v1, v2, v3, v4, v5, v6, v7, v8, v9] (.ref q :: st) I J Q := rL f3_193 rfl rfl
theorem x3_194_18 : Rn (zG xl) 3 194 [v0, v1, v2, v3, v4, v5, v6, v7, v8, v9] (.ref 18 :: st) I J Q = Rn (zG xl) 3 197 [v0, v1, v2, v3, v4, v5, v6, v7, v8, v9] (.ref 24 :: st) I J Q := (rGf f3_194 rfl).trans (tr_and rfl)
theorem x3_194_38 : Rn (zG xl) 3 194 [v0, v1, v2, v3, v4, v5, v6, v7, v8, v9] (.ref 38 :: st) I J Q = Rn (zG xl) 3 197 [v0, v1, v2, v3, v4, v5, v6, v7, v8, v9] (.ref 44 :: st) I J Q := (rGf f3_194 rfl).trans (tr_and rfl)
theorem x3_197 : Rn S 3 197 [v0, v1, v2, .int a, v4, v5, v6, v7, v8, v9] st I J Q = Rn S 3 198 [v0, v1, v2, .int a, v4, v5, v6, v7, v8, v9] (.int a :: st) I J Q := rL f3_197 rfl rfl
theorem x3_198 : Rn S 3 198 [v0, v1, v2, v3, v4, v5, v6, .int a, v8, v9] st I J Q = Rn S 3 200 [v0, v1, v2, v3, v4, v5, v6, .int a, v8, v9] (.int a :: st) I J Q := rL f3_198 rfl rfl
theorem x3_200 : Rn S 3 200 [v0, v1, v2, v3, v4, v5, v6, v7, v8, v9] (.int b :: .int a :: .ref q :: st) I J Q = (zas S q a ∧ Rn S 3 201 [v0, v1, v2, v3, v4, v5, v6, v7, v8, v9] st (zr I q (upd (I q) a.toNatClampNeg b)) J Q) := rIas f3_200
theorem x3_201 : Rn S 3 201 [v0, v1, v2, v3, v4, v5, v6, v7, v8, v9] [] I J Q = Q none I J := rR f3_201 rfl rfl rfl rfl rfl
/-! X0.isFound: 4 -/
theorem B4 : zB 4 = cX0_isFound := rfl
theorem f4_0 : zft 4 0 = some (.aload_n 1, 1) := fet B4 (by decide +kernel) (Or.inr rfl)
theorem f4_1 : zft 4 1 = some (.getfield 97, 3) := fet B4 (by decide +kernel) (Or.inr rfl)
theorem f4_4 : zft 4 4 = some (.iload_n 2, 1) := fet B4 (by decide +kernel) (Or.inr rfl)
theorem f4_5 : zft 4 5 = some (.iaload, 1) := fet B4 (by decide +kernel) (Or.inr rfl)
theorem f4_6 : zft 4 6 = some (.istore 4, 2) := fet B4 (by decide +kernel) (Or.inr rfl)
theorem f4_8 : zft 4 8 = some (.iload 4, 2) := fet B4 (by decide +kernel) (Or.inr rfl)
theorem f4_10 : zft 4 10 = some (.iconst 2, 1) := fet B4 (by decide +kernel) (Or.inr rfl)
theorem f4_11 : zft 4 11 = some (.if_icmp .ne 15, 3) := fet B4 (by decide +kernel) (Or.inr rfl)
theorem f4_14 : zft 4 14 = some (.aload_n 1, 1) := fet B4 (by decide +kernel) (Or.inr rfl)
theorem f4_15 : zft 4 15 = some (.getfield 100, 3) := fet B4 (by decide +kernel) (Or.inr rfl)
theorem f4_18 : zft 4 18 = some (.iload_n 3, 1) := fet B4 (by decide +kernel) (Or.inr rfl)
theorem f4_19 : zft 4 19 = some (.iaload, 1) := fet B4 (by decide +kernel) (Or.inr rfl)
theorem f4_20 : zft 4 20 = some (.iconst 3, 1) := fet B4 (by decide +kernel) (Or.inr rfl)
theorem f4_21 : zft 4 21 = some (.if_icmp .ge 5, 3) := fet B4 (by decide +kernel) (Or.inr rfl)
theorem f4_24 : zft 4 24 = some (.iconst 0, 1) := fet B4 (by decide +kernel) (Or.inr rfl)
theorem f4_25 : zft 4 25 = some (.ireturn, 1) := fet B4 (by decide +kernel) (Or.inr rfl)
theorem f4_26 : zft 4 26 = some (.aload_n 1, 1) := fet B4 (by decide +kernel) (Or.inr rfl)
theorem f4_27 : zft 4 27 = some (.getfield 103, 3) := fet B4 (by decide +kernel) (Or.inr rfl)
theorem f4_30 : zft 4 30 = some (.iload_n 2, 1) := fet B4 (by decide +kernel) (Or.inr rfl)
theorem f4_31 : zft 4 31 = some (.iaload, 1) := fet B4 (by decide +kernel) (Or.inr rfl)
theorem f4_32 : zft 4 32 = some (.iload 4, 2) := fet B4 (by decide +kernel) (Or.inr rfl)
theorem f4_34 : zft 4 34 = some (.ifCond .ne 7, 3) := fet B4 (by decide +kernel) (Or.inr rfl)
theorem f4_37 : zft 4 37 = some (.iconst 2, 1) := fet B4 (by decide +kernel) (Or.inr rfl)
theorem f4_38 : zft 4 38 = some (.goto 4, 3) := fet B4 (by decide +kernel) (Or.inr rfl)
theorem f4_41 : zft 4 41 = some (.iconst 0, 1) := fet B4 (by decide +kernel) (Or.inr rfl)
theorem f4_42 : zft 4 42 = some (.iadd, 1) := fet B4 (by decide +kernel) (Or.inr rfl)
theorem f4_43 : zft 4 43 = some (.istore 5, 2) := fet B4 (by decide +kernel) (Or.inr rfl)
theorem f4_45 : zft 4 45 = some (.iload 5, 2) := fet B4 (by decide +kernel) (Or.inr rfl)
theorem f4_47 : zft 4 47 = some (.aload_n 0, 1) := fet B4 (by decide +kernel) (Or.inr rfl)
theorem f4_48 : zft 4 48 = some (.getfield 24, 3) := fet B4 (by decide +kernel) (Or.inr rfl)
theorem f4_51 : zft 4 51 = some (.iload_n 2, 1) := fet B4 (by decide +kernel) (Or.inr rfl)
theorem f4_52 : zft 4 52 = some (.iaload, 1) := fet B4 (by decide +kernel) (Or.inr rfl)
theorem f4_53 : zft 4 53 = some (.isub, 1) := fet B4 (by decide +kernel) (Or.inr rfl)
theorem f4_54 : zft 4 54 = some (.getstatic 106, 3) := fet B4 (by decide +kernel) (Or.inr rfl)
theorem f4_57 : zft 4 57 = some (.aload_n 1, 1) := fet B4 (by decide +kernel) (Or.inr rfl)
theorem f4_58 : zft 4 58 = some (.getfield 109, 3) := fet B4 (by decide +kernel) (Or.inr rfl)
theorem f4_61 : zft 4 61 = some (.iload_n 3, 1) := fet B4 (by decide +kernel) (Or.inr rfl)
theorem f4_62 : zft 4 62 = some (.iaload, 1) := fet B4 (by decide +kernel) (Or.inr rfl)
theorem f4_63 : zft 4 63 = some (.iaload, 1) := fet B4 (by decide +kernel) (Or.inr rfl)
theorem f4_64 : zft 4 64 = some (.if_icmp .lt 7, 3) := fet B4 (by decide +kernel) (Or.inr rfl)
theorem f4_67 : zft 4 67 = some (.iconst 1, 1) := fet B4 (by decide +kernel) (Or.inr rfl)
theorem f4_68 : zft 4 68 = some (.goto 4, 3) := fet B4 (by decide +kernel) (Or.inr rfl)
theorem f4_71 : zft 4 71 = some (.iconst 0, 1) := fet B4 (by decide +kernel) (Or.inr rfl)
theorem f4_72 : zft 4 72 = some (.ireturn, 1) := fet B4 (by decide +kernel) (Or.inr rfl)
theorem x4_0 : Rn S 4 0 [v0, .ref q, v2, v3, v4, v5] st I J Q = Rn S 4 1 [v0, .ref q, v2, v3, v4, v5] (.ref q :: st) I J Q := rL f4_0 rfl rfl
theorem x4_1_8 : Rn (zG xl) 4 1 [v0, v1, v2, v3, v4, v5] (.ref 8 :: st) I J Q = Rn (zG xl) 4 4 [v0, v1, v2, v3, v4, v5] (.ref 11 :: st) I J Q := (rGf f4_1 rfl).trans (tr_and rfl)
theorem x4_1_28 : Rn (zG xl) 4 1 [v0, v1, v2, v3, v4, v5] (.ref 28 :: st) I J Q = Rn (zG xl) 4 4 [v0, v1, v2, v3, v4, v5] (.ref 31 :: st) I J Q := (rGf f4_1 rfl).trans (tr_and rfl)
theorem x4_4 : Rn S 4 4 [v0, v1, .int a, v3, v4, v5] st I J Q = Rn S 4 5 [v0, v1, .int a, v3, v4, v5] (.int a :: st) I J Q := rL f4_4 rfl rfl
theorem x4_5 : Rn S 4 5 [v0, v1, v2, v3, v4, v5] (.int a :: .ref q :: st) I J Q = (zai S q a ∧ Rn S 4 6 [v0, v1, v2, v3, v4, v5] (.int (I q a.toNatClampNeg) :: st) I J Q) := rIal f4_5
theorem x4_6 : Rn S 4 6 [v0, v1, v2, v3, v4, v5] (.int a :: st) I J Q = Rn S 4 8 [v0, v1, v2, zkl v3, .int a, v5] st I J Q := rL f4_6 rfl rfl
theorem x4_8 : Rn S 4 8 [v0, v1, v2, v3, .int a, v5] st I J Q = Rn S 4 10 [v0, v1, v2, v3, .int a, v5] (.int a :: st) I J Q := rL f4_8 rfl rfl
theorem x4_10 : Rn S 4 10 [v0, v1, v2, v3, v4, v5] st I J Q = Rn S 4 11 [v0, v1, v2, v3, v4, v5] (.int 2 :: st) I J Q := rS f4_10 rfl
theorem x4_11 : Rn S 4 11 [v0, v1, v2, v3, v4, v5] (.int b :: .int a :: st) I J Q = if a = b then Rn S 4 14 [v0, v1, v2, v3, v4, v5] st I J Q else Rn S 4 26 [v0, v1, v2, v3, v4, v5] st I J Q := rCne f4_11 rfl rfl
theorem x4_14 : Rn S 4 14 [v0, .ref q, v2, v3, v4, v5] st I J Q = Rn S 4 15 [v0, .ref q, v2, v3, v4, v5] (.ref q :: st) I J Q := rL f4_14 rfl rfl
theorem x4_15_8 : Rn (zG xl) 4 15 [v0, v1, v2, v3, v4, v5] (.ref 8 :: st) I J Q = Rn (zG xl) 4 18 [v0, v1, v2, v3, v4, v5] (.ref 10 :: st) I J Q := (rGf f4_15 rfl).trans (tr_and rfl)
theorem x4_15_28 : Rn (zG xl) 4 15 [v0, v1, v2, v3, v4, v5] (.ref 28 :: st) I J Q = Rn (zG xl) 4 18 [v0, v1, v2, v3, v4, v5] (.ref 30 :: st) I J Q := (rGf f4_15 rfl).trans (tr_and rfl)
theorem x4_18 : Rn S 4 18 [v0, v1, v2, .int a, v4, v5] st I J Q = Rn S 4 19 [v0, v1, v2, .int a, v4, v5] (.int a :: st) I J Q := rL f4_18 rfl rfl
theorem x4_19 : Rn S 4 19 [v0, v1, v2, v3, v4, v5] (.int a :: .ref q :: st) I J Q = (zai S q a ∧ Rn S 4 20 [v0, v1, v2, v3, v4, v5] (.int (I q a.toNatClampNeg) :: st) I J Q) := rIal f4_19
theorem x4_20 : Rn S 4 20 [v0, v1, v2, v3, v4, v5] st I J Q = Rn S 4 21 [v0, v1, v2, v3, v4, v5] (.int 3 :: st) I J Q := rS f4_20 rfl
theorem x4_21 : Rn S 4 21 [v0, v1, v2, v3, v4, v5] (.int b :: .int a :: st) I J Q = if a < b then Rn S 4 24 [v0, v1, v2, v3, v4, v5] st I J Q else Rn S 4 26 [v0, v1, v2, v3, v4, v5] st I J Q := rCge f4_21 rfl rfl
theorem x4_24 : Rn S 4 24 [v0, v1, v2, v3, v4, v5] st I J Q = Rn S 4 25 [v0, v1, v2, v3, v4, v5] (.int 0 :: st) I J Q := rS f4_24 rfl
theorem x4_25 : Rn S 4 25 [v0, v1, v2, v3, v4, v5] [.int a] I J Q = ((a = 0 ∨ a = 1) ∧ Q (some (.int a)) I J) := rRZ f4_25 (Or.inl rfl)
theorem x4_26 : Rn S 4 26 [v0, .ref q, v2, v3, v4, v5] st I J Q = Rn S 4 27 [v0, .ref q, v2, v3, v4, v5] (.ref q :: st) I J Q := rL f4_26 rfl rfl
theorem x4_27_8 : Rn (zG xl) 4 27 [v0, v1, v2, v3, v4, v5] (.ref 8 :: st) I J Q = Rn (zG xl) 4 30 [v0, v1, v2, v3, v4, v5] (.ref 12 :: st) I J Q := (rGf f4_27 rfl).trans (tr_and rfl)
theorem x4_27_28 : Rn (zG xl) 4 27 [v0, v1, v2, v3, v4, v5] (.ref 28 :: st) I J Q = Rn (zG xl) 4 30 [v0, v1, v2, v3, v4, v5] (.ref 32 :: st) I J Q := (rGf f4_27 rfl).trans (tr_and rfl)
theorem x4_30 : Rn S 4 30 [v0, v1, .int a, v3, v4, v5] st I J Q = Rn S 4 31 [v0, v1, .int a, v3, v4, v5] (.int a :: st) I J Q := rL f4_30 rfl rfl
theorem x4_31 : Rn S 4 31 [v0, v1, v2, v3, v4, v5] (.int a :: .ref q :: st) I J Q = (zai S q a ∧ Rn S 4 32 [v0, v1, v2, v3, v4, v5] (.int (I q a.toNatClampNeg) :: st) I J Q) := rIal f4_31
theorem x4_32 : Rn S 4 32 [v0, v1, v2, v3, .int a, v5] st I J Q = Rn S 4 34 [v0, v1, v2, v3, .int a, v5] (.int a :: st) I J Q := rL f4_32 rfl rfl
theorem x4_34 : Rn S 4 34 [v0, v1, v2, v3, v4, v5] (.int a :: st) I J Q = if a = 0 then Rn S 4 37 [v0, v1, v2, v3, v4, v5] st I J Q else Rn S 4 41 [v0, v1, v2, v3, v4, v5] st I J Q := rIne f4_34 rfl rfl
theorem x4_37 : Rn S 4 37 [v0, v1, v2, v3, v4, v5] st I J Q = Rn S 4 38 [v0, v1, v2, v3, v4, v5] (.int 2 :: st) I J Q := rS f4_37 rfl
theorem x4_38 : Rn S 4 38 [v0, v1, v2, v3, v4, v5] st I J Q = Rn S 4 42 [v0, v1, v2, v3, v4, v5] st I J Q := rB f4_38 rfl rfl rfl
theorem x4_41 : Rn S 4 41 [v0, v1, v2, v3, v4, v5] st I J Q = Rn S 4 42 [v0, v1, v2, v3, v4, v5] (.int 0 :: st) I J Q := rS f4_41 rfl
theorem x4_42 : Rn S 4 42 [v0, v1, v2, v3, v4, v5] (.int b :: .int a :: st) I J Q = Rn S 4 43 [v0, v1, v2, v3, v4, v5] (.int (a + b) :: st) I J Q := rS f4_42 rfl
theorem x4_43 : Rn S 4 43 [v0, v1, v2, v3, v4, v5] (.int a :: st) I J Q = Rn S 4 45 [v0, v1, v2, v3, zkl v4, .int a] st I J Q := rL f4_43 rfl rfl
theorem x4_45 : Rn S 4 45 [v0, v1, v2, v3, v4, .int a] st I J Q = Rn S 4 47 [v0, v1, v2, v3, v4, .int a] (.int a :: st) I J Q := rL f4_45 rfl rfl
theorem x4_47 : Rn S 4 47 [.ref q, v1, v2, v3, v4, v5] st I J Q = Rn S 4 48 [.ref q, v1, v2, v3, v4, v5] (.ref q :: st) I J Q := rL f4_47 rfl rfl
theorem x4_48_18 : Rn (zG xl) 4 48 [v0, v1, v2, v3, v4, v5] (.ref 18 :: st) I J Q = Rn (zG xl) 4 51 [v0, v1, v2, v3, v4, v5] (.ref 23 :: st) I J Q := (rGf f4_48 rfl).trans (tr_and rfl)
theorem x4_48_38 : Rn (zG xl) 4 48 [v0, v1, v2, v3, v4, v5] (.ref 38 :: st) I J Q = Rn (zG xl) 4 51 [v0, v1, v2, v3, v4, v5] (.ref 43 :: st) I J Q := (rGf f4_48 rfl).trans (tr_and rfl)
theorem x4_51 : Rn S 4 51 [v0, v1, .int a, v3, v4, v5] st I J Q = Rn S 4 52 [v0, v1, .int a, v3, v4, v5] (.int a :: st) I J Q := rL f4_51 rfl rfl
theorem x4_52 : Rn S 4 52 [v0, v1, v2, v3, v4, v5] (.int a :: .ref q :: st) I J Q = (zai S q a ∧ Rn S 4 53 [v0, v1, v2, v3, v4, v5] (.int (I q a.toNatClampNeg) :: st) I J Q) := rIal f4_52
theorem x4_53 : Rn S 4 53 [v0, v1, v2, v3, v4, v5] (.int b :: .int a :: st) I J Q = Rn S 4 54 [v0, v1, v2, v3, v4, v5] (.int (a - b) :: st) I J Q := rS f4_53 rfl
theorem x4_54 : Rn S 4 54 [v0, v1, v2, v3, v4, v5] st I J Q = Rn S 4 57 [v0, v1, v2, v3, v4, v5] (.ref 1000 :: st) I J Q := rS f4_54 rfl
theorem x4_57 : Rn S 4 57 [v0, .ref q, v2, v3, v4, v5] st I J Q = Rn S 4 58 [v0, .ref q, v2, v3, v4, v5] (.ref q :: st) I J Q := rL f4_57 rfl rfl
theorem x4_58_8 : Rn (zG xl) 4 58 [v0, v1, v2, v3, v4, v5] (.ref 8 :: st) I J Q = Rn (zG xl) 4 61 [v0, v1, v2, v3, v4, v5] (.ref 9 :: st) I J Q := (rGf f4_58 rfl).trans (tr_and rfl)
theorem x4_58_28 : Rn (zG xl) 4 58 [v0, v1, v2, v3, v4, v5] (.ref 28 :: st) I J Q = Rn (zG xl) 4 61 [v0, v1, v2, v3, v4, v5] (.ref 29 :: st) I J Q := (rGf f4_58 rfl).trans (tr_and rfl)
theorem x4_61 : Rn S 4 61 [v0, v1, v2, .int a, v4, v5] st I J Q = Rn S 4 62 [v0, v1, v2, .int a, v4, v5] (.int a :: st) I J Q := rL f4_61 rfl rfl
theorem x4_62 : Rn S 4 62 [v0, v1, v2, v3, v4, v5] (.int a :: .ref q :: st) I J Q = (zai S q a ∧ Rn S 4 63 [v0, v1, v2, v3, v4, v5] (.int (I q a.toNatClampNeg) :: st) I J Q) := rIal f4_62
theorem x4_63 : Rn S 4 63 [v0, v1, v2, v3, v4, v5] (.int a :: .ref q :: st) I J Q = (zai S q a ∧ Rn S 4 64 [v0, v1, v2, v3, v4, v5] (.int (I q a.toNatClampNeg) :: st) I J Q) := rIal f4_63
theorem x4_64 : Rn S 4 64 [v0, v1, v2, v3, v4, v5] (.int b :: .int a :: st) I J Q = if a < b then Rn S 4 71 [v0, v1, v2, v3, v4, v5] st I J Q else Rn S 4 67 [v0, v1, v2, v3, v4, v5] st I J Q := rClt f4_64 rfl rfl
theorem x4_67 : Rn S 4 67 [v0, v1, v2, v3, v4, v5] st I J Q = Rn S 4 68 [v0, v1, v2, v3, v4, v5] (.int 1 :: st) I J Q := rS f4_67 rfl
theorem x4_68 : Rn S 4 68 [v0, v1, v2, v3, v4, v5] st I J Q = Rn S 4 72 [v0, v1, v2, v3, v4, v5] st I J Q := rB f4_68 rfl rfl rfl
theorem x4_71 : Rn S 4 71 [v0, v1, v2, v3, v4, v5] st I J Q = Rn S 4 72 [v0, v1, v2, v3, v4, v5] (.int 0 :: st) I J Q := rS f4_71 rfl
theorem x4_72 : Rn S 4 72 [v0, v1, v2, v3, v4, v5] [.int a] I J Q = ((a = 0 ∨ a = 1) ∧ Q (some (.int a)) I J) := rRZ f4_72 (Or.inl rfl)
/-! X0.correct: 5 -/
theorem B5 : zB 5 = cX0_correct := rfl
theorem f5_0 : zft 5 0 = some (.aload_n 0, 1) := fet B5 (by decide +kernel) (Or.inr rfl)
theorem f5_1 : zft 5 1 = some (.getfield 9, 3) := fet B5 (by decide +kernel) (Or.inr rfl)
theorem f5_4 : zft 5 4 = some (.iload_n 1, 1) := fet B5 (by decide +kernel) (Or.inr rfl)
theorem f5_5 : zft 5 5 = some (.iaload, 1) := fet B5 (by decide +kernel) (Or.inr rfl)
theorem f5_6 : zft 5 6 = some (.iconst (-1), 1) := fet B5 (by decide +kernel) (Or.inr rfl)
theorem f5_7 : zft 5 7 = some (.if_icmp .eq 13, 3) := fet B5 (by decide +kernel) (Or.inr rfl)
theorem f5_10 : zft 5 10 = some (.iload_n 3, 1) := fet B5 (by decide +kernel) (Or.inr rfl)
theorem f5_11 : zft 5 11 = some (.aload_n 0, 1) := fet B5 (by decide +kernel) (Or.inr rfl)
theorem f5_12 : zft 5 12 = some (.getfield 15, 3) := fet B5 (by decide +kernel) (Or.inr rfl)
theorem f5_15 : zft 5 15 = some (.iload_n 1, 1) := fet B5 (by decide +kernel) (Or.inr rfl)
theorem f5_16 : zft 5 16 = some (.iaload, 1) := fet B5 (by decide +kernel) (Or.inr rfl)
theorem f5_17 : zft 5 17 = some (.if_icmp .ge 7, 3) := fet B5 (by decide +kernel) (Or.inr rfl)
theorem f5_20 : zft 5 20 = some (.iconst 1, 1) := fet B5 (by decide +kernel) (Or.inr rfl)
theorem f5_21 : zft 5 21 = some (.goto 4, 3) := fet B5 (by decide +kernel) (Or.inr rfl)
theorem f5_24 : zft 5 24 = some (.iconst 0, 1) := fet B5 (by decide +kernel) (Or.inr rfl)
theorem f5_25 : zft 5 25 = some (.istore 4, 2) := fet B5 (by decide +kernel) (Or.inr rfl)
theorem f5_27 : zft 5 27 = some (.iload 4, 2) := fet B5 (by decide +kernel) (Or.inr rfl)
theorem f5_29 : zft 5 29 = some (.ifCond .ne 23, 3) := fet B5 (by decide +kernel) (Or.inr rfl)
theorem f5_32 : zft 5 32 = some (.iload_n 3, 1) := fet B5 (by decide +kernel) (Or.inr rfl)
theorem f5_33 : zft 5 33 = some (.aload_n 0, 1) := fet B5 (by decide +kernel) (Or.inr rfl)
theorem f5_34 : zft 5 34 = some (.getfield 15, 3) := fet B5 (by decide +kernel) (Or.inr rfl)
theorem f5_37 : zft 5 37 = some (.iload_n 1, 1) := fet B5 (by decide +kernel) (Or.inr rfl)
theorem f5_38 : zft 5 38 = some (.iaload, 1) := fet B5 (by decide +kernel) (Or.inr rfl)
theorem f5_39 : zft 5 39 = some (.if_icmp .ne 27, 3) := fet B5 (by decide +kernel) (Or.inr rfl)
theorem f5_42 : zft 5 42 = some (.iload_n 2, 1) := fet B5 (by decide +kernel) (Or.inr rfl)
theorem f5_43 : zft 5 43 = some (.aload_n 0, 1) := fet B5 (by decide +kernel) (Or.inr rfl)
theorem f5_44 : zft 5 44 = some (.getfield 9, 3) := fet B5 (by decide +kernel) (Or.inr rfl)
theorem f5_47 : zft 5 47 = some (.iload_n 1, 1) := fet B5 (by decide +kernel) (Or.inr rfl)
theorem f5_48 : zft 5 48 = some (.iaload, 1) := fet B5 (by decide +kernel) (Or.inr rfl)
theorem f5_49 : zft 5 49 = some (.if_icmp .ge 17, 3) := fet B5 (by decide +kernel) (Or.inr rfl)
theorem f5_52 : zft 5 52 = some (.aload_n 0, 1) := fet B5 (by decide +kernel) (Or.inr rfl)
theorem f5_53 : zft 5 53 = some (.getfield 9, 3) := fet B5 (by decide +kernel) (Or.inr rfl)
theorem f5_56 : zft 5 56 = some (.iload_n 1, 1) := fet B5 (by decide +kernel) (Or.inr rfl)
theorem f5_57 : zft 5 57 = some (.iload_n 2, 1) := fet B5 (by decide +kernel) (Or.inr rfl)
theorem f5_58 : zft 5 58 = some (.iastore, 1) := fet B5 (by decide +kernel) (Or.inr rfl)
theorem f5_59 : zft 5 59 = some (.aload_n 0, 1) := fet B5 (by decide +kernel) (Or.inr rfl)
theorem f5_60 : zft 5 60 = some (.getfield 15, 3) := fet B5 (by decide +kernel) (Or.inr rfl)
theorem f5_63 : zft 5 63 = some (.iload_n 1, 1) := fet B5 (by decide +kernel) (Or.inr rfl)
theorem f5_64 : zft 5 64 = some (.iload_n 3, 1) := fet B5 (by decide +kernel) (Or.inr rfl)
theorem f5_65 : zft 5 65 = some (.iastore, 1) := fet B5 (by decide +kernel) (Or.inr rfl)
theorem f5_66 : zft 5 66 = some (.return_, 1) := fet B5 (by decide +kernel) (Or.inr rfl)
theorem x5_0 : Rn S 5 0 [.ref q, v1, v2, v3, v4] st I J Q = Rn S 5 1 [.ref q, v1, v2, v3, v4] (.ref q :: st) I J Q := rL f5_0 rfl rfl
theorem x5_1_18 : Rn (zG xl) 5 1 [v0, v1, v2, v3, v4] (.ref 18 :: st) I J Q = Rn (zG xl) 5 4 [v0, v1, v2, v3, v4] (.ref 19 :: st) I J Q := (rGf f5_1 rfl).trans (tr_and rfl)
theorem x5_1_38 : Rn (zG xl) 5 1 [v0, v1, v2, v3, v4] (.ref 38 :: st) I J Q = Rn (zG xl) 5 4 [v0, v1, v2, v3, v4] (.ref 39 :: st) I J Q := (rGf f5_1 rfl).trans (tr_and rfl)
theorem x5_4 : Rn S 5 4 [v0, .int a, v2, v3, v4] st I J Q = Rn S 5 5 [v0, .int a, v2, v3, v4] (.int a :: st) I J Q := rL f5_4 rfl rfl
theorem x5_5 : Rn S 5 5 [v0, v1, v2, v3, v4] (.int a :: .ref q :: st) I J Q = (zai S q a ∧ Rn S 5 6 [v0, v1, v2, v3, v4] (.int (I q a.toNatClampNeg) :: st) I J Q) := rIal f5_5
theorem x5_6 : Rn S 5 6 [v0, v1, v2, v3, v4] st I J Q = Rn S 5 7 [v0, v1, v2, v3, v4] (.int (-1) :: st) I J Q := rS f5_6 rfl
theorem x5_7 : Rn S 5 7 [v0, v1, v2, v3, v4] (.int b :: .int a :: st) I J Q = if a = b then Rn S 5 20 [v0, v1, v2, v3, v4] st I J Q else Rn S 5 10 [v0, v1, v2, v3, v4] st I J Q := rCeq f5_7 rfl rfl
theorem x5_10 : Rn S 5 10 [v0, v1, v2, .int a, v4] st I J Q = Rn S 5 11 [v0, v1, v2, .int a, v4] (.int a :: st) I J Q := rL f5_10 rfl rfl
theorem x5_11 : Rn S 5 11 [.ref q, v1, v2, v3, v4] st I J Q = Rn S 5 12 [.ref q, v1, v2, v3, v4] (.ref q :: st) I J Q := rL f5_11 rfl rfl
theorem x5_12_18 : Rn (zG xl) 5 12 [v0, v1, v2, v3, v4] (.ref 18 :: st) I J Q = Rn (zG xl) 5 15 [v0, v1, v2, v3, v4] (.ref 20 :: st) I J Q := (rGf f5_12 rfl).trans (tr_and rfl)
theorem x5_12_38 : Rn (zG xl) 5 12 [v0, v1, v2, v3, v4] (.ref 38 :: st) I J Q = Rn (zG xl) 5 15 [v0, v1, v2, v3, v4] (.ref 40 :: st) I J Q := (rGf f5_12 rfl).trans (tr_and rfl)
theorem x5_15 : Rn S 5 15 [v0, .int a, v2, v3, v4] st I J Q = Rn S 5 16 [v0, .int a, v2, v3, v4] (.int a :: st) I J Q := rL f5_15 rfl rfl
theorem x5_16 : Rn S 5 16 [v0, v1, v2, v3, v4] (.int a :: .ref q :: st) I J Q = (zai S q a ∧ Rn S 5 17 [v0, v1, v2, v3, v4] (.int (I q a.toNatClampNeg) :: st) I J Q) := rIal f5_16
theorem x5_17 : Rn S 5 17 [v0, v1, v2, v3, v4] (.int b :: .int a :: st) I J Q = if a < b then Rn S 5 20 [v0, v1, v2, v3, v4] st I J Q else Rn S 5 24 [v0, v1, v2, v3, v4] st I J Q := rCge f5_17 rfl rfl
theorem x5_20 : Rn S 5 20 [v0, v1, v2, v3, v4] st I J Q = Rn S 5 21 [v0, v1, v2, v3, v4] (.int 1 :: st) I J Q := rS f5_20 rfl
theorem x5_21 : Rn S 5 21 [v0, v1, v2, v3, v4] st I J Q = Rn S 5 25 [v0, v1, v2, v3, v4] st I J Q := rB f5_21 rfl rfl rfl
theorem x5_24 : Rn S 5 24 [v0, v1, v2, v3, v4] st I J Q = Rn S 5 25 [v0, v1, v2, v3, v4] (.int 0 :: st) I J Q := rS f5_24 rfl
theorem x5_25 : Rn S 5 25 [v0, v1, v2, v3, v4] (.int a :: st) I J Q = Rn S 5 27 [v0, v1, v2, zkl v3, .int a] st I J Q := rL f5_25 rfl rfl
theorem x5_27 : Rn S 5 27 [v0, v1, v2, v3, .int a] st I J Q = Rn S 5 29 [v0, v1, v2, v3, .int a] (.int a :: st) I J Q := rL f5_27 rfl rfl
theorem x5_29 : Rn S 5 29 [v0, v1, v2, v3, v4] (.int a :: st) I J Q = if a = 0 then Rn S 5 32 [v0, v1, v2, v3, v4] st I J Q else Rn S 5 52 [v0, v1, v2, v3, v4] st I J Q := rIne f5_29 rfl rfl
theorem x5_32 : Rn S 5 32 [v0, v1, v2, .int a, v4] st I J Q = Rn S 5 33 [v0, v1, v2, .int a, v4] (.int a :: st) I J Q := rL f5_32 rfl rfl
theorem x5_33 : Rn S 5 33 [.ref q, v1, v2, v3, v4] st I J Q = Rn S 5 34 [.ref q, v1, v2, v3, v4] (.ref q :: st) I J Q := rL f5_33 rfl rfl
theorem x5_34_18 : Rn (zG xl) 5 34 [v0, v1, v2, v3, v4] (.ref 18 :: st) I J Q = Rn (zG xl) 5 37 [v0, v1, v2, v3, v4] (.ref 20 :: st) I J Q := (rGf f5_34 rfl).trans (tr_and rfl)
theorem x5_34_38 : Rn (zG xl) 5 34 [v0, v1, v2, v3, v4] (.ref 38 :: st) I J Q = Rn (zG xl) 5 37 [v0, v1, v2, v3, v4] (.ref 40 :: st) I J Q := (rGf f5_34 rfl).trans (tr_and rfl)
theorem x5_37 : Rn S 5 37 [v0, .int a, v2, v3, v4] st I J Q = Rn S 5 38 [v0, .int a, v2, v3, v4] (.int a :: st) I J Q := rL f5_37 rfl rfl
theorem x5_38 : Rn S 5 38 [v0, v1, v2, v3, v4] (.int a :: .ref q :: st) I J Q = (zai S q a ∧ Rn S 5 39 [v0, v1, v2, v3, v4] (.int (I q a.toNatClampNeg) :: st) I J Q) := rIal f5_38
theorem x5_39 : Rn S 5 39 [v0, v1, v2, v3, v4] (.int b :: .int a :: st) I J Q = if a = b then Rn S 5 42 [v0, v1, v2, v3, v4] st I J Q else Rn S 5 66 [v0, v1, v2, v3, v4] st I J Q := rCne f5_39 rfl rfl
theorem x5_42 : Rn S 5 42 [v0, v1, .int a, v3, v4] st I J Q = Rn S 5 43 [v0, v1, .int a, v3, v4] (.int a :: st) I J Q := rL f5_42 rfl rfl
theorem x5_43 : Rn S 5 43 [.ref q, v1, v2, v3, v4] st I J Q = Rn S 5 44 [.ref q, v1, v2, v3, v4] (.ref q :: st) I J Q := rL f5_43 rfl rfl
theorem x5_44_18 : Rn (zG xl) 5 44 [v0, v1, v2, v3, v4] (.ref 18 :: st) I J Q = Rn (zG xl) 5 47 [v0, v1, v2, v3, v4] (.ref 19 :: st) I J Q := (rGf f5_44 rfl).trans (tr_and rfl)
theorem x5_44_38 : Rn (zG xl) 5 44 [v0, v1, v2, v3, v4] (.ref 38 :: st) I J Q = Rn (zG xl) 5 47 [v0, v1, v2, v3, v4] (.ref 39 :: st) I J Q := (rGf f5_44 rfl).trans (tr_and rfl)
theorem x5_47 : Rn S 5 47 [v0, .int a, v2, v3, v4] st I J Q = Rn S 5 48 [v0, .int a, v2, v3, v4] (.int a :: st) I J Q := rL f5_47 rfl rfl
theorem x5_48 : Rn S 5 48 [v0, v1, v2, v3, v4] (.int a :: .ref q :: st) I J Q = (zai S q a ∧ Rn S 5 49 [v0, v1, v2, v3, v4] (.int (I q a.toNatClampNeg) :: st) I J Q) := rIal f5_48
theorem x5_49 : Rn S 5 49 [v0, v1, v2, v3, v4] (.int b :: .int a :: st) I J Q = if a < b then Rn S 5 52 [v0, v1, v2, v3, v4] st I J Q else Rn S 5 66 [v0, v1, v2, v3, v4] st I J Q := rCge f5_49 rfl rfl
theorem x5_52 : Rn S 5 52 [.ref q, v1, v2, v3, v4] st I J Q = Rn S 5 53 [.ref q, v1, v2, v3, v4] (.ref q :: st) I J Q := rL f5_52 rfl rfl
theorem x5_53_18 : Rn (zG xl) 5 53 [v0, v1, v2, v3, v4] (.ref 18 :: st) I J Q = Rn (zG xl) 5 56 [v0, v1, v2, v3, v4] (.ref 19 :: st) I J Q := (rGf f5_53 rfl).trans (tr_and rfl)
theorem x5_53_38 : Rn (zG xl) 5 53 [v0, v1, v2, v3, v4] (.ref 38 :: st) I J Q = Rn (zG xl) 5 56 [v0, v1, v2, v3, v4] (.ref 39 :: st) I J Q := (rGf f5_53 rfl).trans (tr_and rfl)
theorem x5_56 : Rn S 5 56 [v0, .int a, v2, v3, v4] st I J Q = Rn S 5 57 [v0, .int a, v2, v3, v4] (.int a :: st) I J Q := rL f5_56 rfl rfl
theorem x5_57 : Rn S 5 57 [v0, v1, .int a, v3, v4] st I J Q = Rn S 5 58 [v0, v1, .int a, v3, v4] (.int a :: st) I J Q := rL f5_57 rfl rfl
theorem x5_58 : Rn S 5 58 [v0, v1, v2, v3, v4] (.int b :: .int a :: .ref q :: st) I J Q = (zas S q a ∧ Rn S 5 59 [v0, v1, v2, v3, v4] st (zr I q (upd (I q) a.toNatClampNeg b)) J Q) := rIas f5_58
theorem x5_59 : Rn S 5 59 [.ref q, v1, v2, v3, v4] st I J Q = Rn S 5 60 [.ref q, v1, v2, v3, v4] (.ref q :: st) I J Q := rL f5_59 rfl rfl
theorem x5_60_18 : Rn (zG xl) 5 60 [v0, v1, v2, v3, v4] (.ref 18 :: st) I J Q = Rn (zG xl) 5 63 [v0, v1, v2, v3, v4] (.ref 20 :: st) I J Q := (rGf f5_60 rfl).trans (tr_and rfl)
theorem x5_60_38 : Rn (zG xl) 5 60 [v0, v1, v2, v3, v4] (.ref 38 :: st) I J Q = Rn (zG xl) 5 63 [v0, v1, v2, v3, v4] (.ref 40 :: st) I J Q := (rGf f5_60 rfl).trans (tr_and rfl)
theorem x5_63 : Rn S 5 63 [v0, .int a, v2, v3, v4] st I J Q = Rn S 5 64 [v0, .int a, v2, v3, v4] (.int a :: st) I J Q := rL f5_63 rfl rfl
theorem x5_64 : Rn S 5 64 [v0, v1, v2, .int a, v4] st I J Q = Rn S 5 65 [v0, v1, v2, .int a, v4] (.int a :: st) I J Q := rL f5_64 rfl rfl
theorem x5_65 : Rn S 5 65 [v0, v1, v2, v3, v4] (.int b :: .int a :: .ref q :: st) I J Q = (zas S q a ∧ Rn S 5 66 [v0, v1, v2, v3, v4] st (zr I q (upd (I q) a.toNatClampNeg b)) J Q) := rIas f5_65
theorem x5_66 : Rn S 5 66 [v0, v1, v2, v3, v4] [] I J Q = Q none I J := rR f5_66 rfl rfl rfl rfl rfl
/-! X0.isMarked: 6 -/
theorem B6 : zB 6 = cX0_isMarked := rfl
theorem f6_0 : zft 6 0 = some (.aload_n 0, 1) := fet B6 (by decide +kernel) (Or.inr rfl)
theorem f6_1 : zft 6 1 = some (.getfield 9, 3) := fet B6 (by decide +kernel) (Or.inr rfl)
theorem f6_4 : zft 6 4 = some (.iload_n 1, 1) := fet B6 (by decide +kernel) (Or.inr rfl)
theorem f6_5 : zft 6 5 = some (.iaload, 1) := fet B6 (by decide +kernel) (Or.inr rfl)
theorem f6_6 : zft 6 6 = some (.iconst (-1), 1) := fet B6 (by decide +kernel) (Or.inr rfl)
theorem f6_7 : zft 6 7 = some (.if_icmp .eq 17, 3) := fet B6 (by decide +kernel) (Or.inr rfl)
theorem f6_10 : zft 6 10 = some (.aload_n 0, 1) := fet B6 (by decide +kernel) (Or.inr rfl)
theorem f6_11 : zft 6 11 = some (.getfield 15, 3) := fet B6 (by decide +kernel) (Or.inr rfl)
theorem f6_14 : zft 6 14 = some (.iload_n 1, 1) := fet B6 (by decide +kernel) (Or.inr rfl)
theorem f6_15 : zft 6 15 = some (.iaload, 1) := fet B6 (by decide +kernel) (Or.inr rfl)
theorem f6_16 : zft 6 16 = some (.iload_n 2, 1) := fet B6 (by decide +kernel) (Or.inr rfl)
theorem f6_17 : zft 6 17 = some (.if_icmp .gt 7, 3) := fet B6 (by decide +kernel) (Or.inr rfl)
theorem f6_20 : zft 6 20 = some (.iconst 1, 1) := fet B6 (by decide +kernel) (Or.inr rfl)
theorem f6_21 : zft 6 21 = some (.goto 4, 3) := fet B6 (by decide +kernel) (Or.inr rfl)
theorem f6_24 : zft 6 24 = some (.iconst 0, 1) := fet B6 (by decide +kernel) (Or.inr rfl)
theorem f6_25 : zft 6 25 = some (.ireturn, 1) := fet B6 (by decide +kernel) (Or.inr rfl)
theorem x6_0 : Rn S 6 0 [.ref q, v1, v2] st I J Q = Rn S 6 1 [.ref q, v1, v2] (.ref q :: st) I J Q := rL f6_0 rfl rfl
theorem x6_1_18 : Rn (zG xl) 6 1 [v0, v1, v2] (.ref 18 :: st) I J Q = Rn (zG xl) 6 4 [v0, v1, v2] (.ref 19 :: st) I J Q := (rGf f6_1 rfl).trans (tr_and rfl)
theorem x6_1_38 : Rn (zG xl) 6 1 [v0, v1, v2] (.ref 38 :: st) I J Q = Rn (zG xl) 6 4 [v0, v1, v2] (.ref 39 :: st) I J Q := (rGf f6_1 rfl).trans (tr_and rfl)
theorem x6_4 : Rn S 6 4 [v0, .int a, v2] st I J Q = Rn S 6 5 [v0, .int a, v2] (.int a :: st) I J Q := rL f6_4 rfl rfl
theorem x6_5 : Rn S 6 5 [v0, v1, v2] (.int a :: .ref q :: st) I J Q = (zai S q a ∧ Rn S 6 6 [v0, v1, v2] (.int (I q a.toNatClampNeg) :: st) I J Q) := rIal f6_5
theorem x6_6 : Rn S 6 6 [v0, v1, v2] st I J Q = Rn S 6 7 [v0, v1, v2] (.int (-1) :: st) I J Q := rS f6_6 rfl
theorem x6_7 : Rn S 6 7 [v0, v1, v2] (.int b :: .int a :: st) I J Q = if a = b then Rn S 6 24 [v0, v1, v2] st I J Q else Rn S 6 10 [v0, v1, v2] st I J Q := rCeq f6_7 rfl rfl
theorem x6_10 : Rn S 6 10 [.ref q, v1, v2] st I J Q = Rn S 6 11 [.ref q, v1, v2] (.ref q :: st) I J Q := rL f6_10 rfl rfl
theorem x6_11_18 : Rn (zG xl) 6 11 [v0, v1, v2] (.ref 18 :: st) I J Q = Rn (zG xl) 6 14 [v0, v1, v2] (.ref 20 :: st) I J Q := (rGf f6_11 rfl).trans (tr_and rfl)
theorem x6_11_38 : Rn (zG xl) 6 11 [v0, v1, v2] (.ref 38 :: st) I J Q = Rn (zG xl) 6 14 [v0, v1, v2] (.ref 40 :: st) I J Q := (rGf f6_11 rfl).trans (tr_and rfl)
theorem x6_14 : Rn S 6 14 [v0, .int a, v2] st I J Q = Rn S 6 15 [v0, .int a, v2] (.int a :: st) I J Q := rL f6_14 rfl rfl
theorem x6_15 : Rn S 6 15 [v0, v1, v2] (.int a :: .ref q :: st) I J Q = (zai S q a ∧ Rn S 6 16 [v0, v1, v2] (.int (I q a.toNatClampNeg) :: st) I J Q) := rIal f6_15
theorem x6_16 : Rn S 6 16 [v0, v1, .int a] st I J Q = Rn S 6 17 [v0, v1, .int a] (.int a :: st) I J Q := rL f6_16 rfl rfl
theorem x6_17 : Rn S 6 17 [v0, v1, v2] (.int b :: .int a :: st) I J Q = if b < a then Rn S 6 24 [v0, v1, v2] st I J Q else Rn S 6 20 [v0, v1, v2] st I J Q := rCgt f6_17 rfl rfl
theorem x6_20 : Rn S 6 20 [v0, v1, v2] st I J Q = Rn S 6 21 [v0, v1, v2] (.int 1 :: st) I J Q := rS f6_20 rfl
theorem x6_21 : Rn S 6 21 [v0, v1, v2] st I J Q = Rn S 6 25 [v0, v1, v2] st I J Q := rB f6_21 rfl rfl rfl
theorem x6_24 : Rn S 6 24 [v0, v1, v2] st I J Q = Rn S 6 25 [v0, v1, v2] (.int 0 :: st) I J Q := rS f6_24 rfl
theorem x6_25 : Rn S 6 25 [v0, v1, v2] [.int a] I J Q = ((a = 0 ∨ a = 1) ∧ Q (some (.int a)) I J) := rRZ f6_25 (Or.inl rfl)
/-! X0.markedBy: 7 -/
theorem B7 : zB 7 = cX0_markedBy := rfl
theorem f7_0 : zft 7 0 = some (.iconst 0, 1) := fet B7 (by decide +kernel) (Or.inr rfl)
theorem f7_1 : zft 7 1 = some (.istore_n 2, 1) := fet B7 (by decide +kernel) (Or.inr rfl)
theorem f7_2 : zft 7 2 = some (.iconst 0, 1) := fet B7 (by decide +kernel) (Or.inr rfl)
theorem f7_3 : zft 7 3 = some (.istore_n 3, 1) := fet B7 (by decide +kernel) (Or.inr rfl)
theorem f7_4 : zft 7 4 = some (.iload_n 3, 1) := fet B7 (by decide +kernel) (Or.inr rfl)
theorem f7_5 : zft 7 5 = some (.aload_n 0, 1) := fet B7 (by decide +kernel) (Or.inr rfl)
theorem f7_6 : zft 7 6 = some (.getfield 65, 3) := fet B7 (by decide +kernel) (Or.inr rfl)
theorem f7_9 : zft 7 9 = some (.if_icmp .ge 24, 3) := fet B7 (by decide +kernel) (Or.inr rfl)
theorem f7_12 : zft 7 12 = some (.aload_n 0, 1) := fet B7 (by decide +kernel) (Or.inr rfl)
theorem f7_13 : zft 7 13 = some (.iload_n 3, 1) := fet B7 (by decide +kernel) (Or.inr rfl)
theorem f7_14 : zft 7 14 = some (.iload_n 1, 1) := fet B7 (by decide +kernel) (Or.inr rfl)
theorem f7_15 : zft 7 15 = some (.invokevirtual 112, 3) := fet B7 (by decide +kernel) (Or.inr rfl)
theorem f7_18 : zft 7 18 = some (.ifCond .eq 9, 3) := fet B7 (by decide +kernel) (Or.inr rfl)
theorem f7_21 : zft 7 21 = some (.iload_n 2, 1) := fet B7 (by decide +kernel) (Or.inr rfl)
theorem f7_22 : zft 7 22 = some (.iconst 1, 1) := fet B7 (by decide +kernel) (Or.inr rfl)
theorem f7_23 : zft 7 23 = some (.iload_n 3, 1) := fet B7 (by decide +kernel) (Or.inr rfl)
theorem f7_24 : zft 7 24 = some (.ishl, 1) := fet B7 (by decide +kernel) (Or.inr rfl)
theorem f7_25 : zft 7 25 = some (.ior, 1) := fet B7 (by decide +kernel) (Or.inr rfl)
theorem f7_26 : zft 7 26 = some (.istore_n 2, 1) := fet B7 (by decide +kernel) (Or.inr rfl)
theorem f7_27 : zft 7 27 = some (.iinc 3 1, 3) := fet B7 (by decide +kernel) (Or.inr rfl)
theorem f7_30 : zft 7 30 = some (.goto (-26), 3) := fet B7 (by decide +kernel) (Or.inr rfl)
theorem f7_33 : zft 7 33 = some (.iload_n 2, 1) := fet B7 (by decide +kernel) (Or.inr rfl)
theorem f7_34 : zft 7 34 = some (.ireturn, 1) := fet B7 (by decide +kernel) (Or.inr rfl)
theorem x7_0 : Rn S 7 0 [v0, v1, v2, v3] st I J Q = Rn S 7 1 [v0, v1, v2, v3] (.int 0 :: st) I J Q := rS f7_0 rfl
theorem x7_1 : Rn S 7 1 [v0, v1, v2, v3] (.int a :: st) I J Q = Rn S 7 2 [v0, zkl v1, .int a, v3] st I J Q := rL f7_1 rfl rfl
theorem x7_2 : Rn S 7 2 [v0, v1, v2, v3] st I J Q = Rn S 7 3 [v0, v1, v2, v3] (.int 0 :: st) I J Q := rS f7_2 rfl
theorem x7_3 : Rn S 7 3 [v0, v1, v2, v3] (.int a :: st) I J Q = Rn S 7 4 [v0, v1, zkl v2, .int a] st I J Q := rL f7_3 rfl rfl
theorem h7_4 : Rn S 7 4 [v0, v1, v2, .int a] st I J Q = Rn S 7 5 [v0, v1, v2, .int a] (.int a :: st) I J Q := rL f7_4 rfl rfl
theorem x7_5 : Rn S 7 5 [.ref q, v1, v2, v3] st I J Q = Rn S 7 6 [.ref q, v1, v2, v3] (.ref q :: st) I J Q := rL f7_5 rfl rfl
theorem x7_6_18 : Rn (zG xl) 7 6 [v0, v1, v2, v3] (.ref 18 :: st) I J Q = Rn (zG xl) 7 9 [v0, v1, v2, v3] (.int (I 18 0) :: st) I J Q := (rGf f7_6 rfl).trans (tr_and rfl)
theorem x7_6_38 : Rn (zG xl) 7 6 [v0, v1, v2, v3] (.ref 38 :: st) I J Q = Rn (zG xl) 7 9 [v0, v1, v2, v3] (.int (I 38 0) :: st) I J Q := (rGf f7_6 rfl).trans (tr_and rfl)
theorem x7_9 : Rn S 7 9 [v0, v1, v2, v3] (.int b :: .int a :: st) I J Q = if a < b then Rn S 7 12 [v0, v1, v2, v3] st I J Q else Rn S 7 33 [v0, v1, v2, v3] st I J Q := rCge f7_9 rfl rfl
theorem x7_12 : Rn S 7 12 [.ref q, v1, v2, v3] st I J Q = Rn S 7 13 [.ref q, v1, v2, v3] (.ref q :: st) I J Q := rL f7_12 rfl rfl
theorem x7_13 : Rn S 7 13 [v0, v1, v2, .int a] st I J Q = Rn S 7 14 [v0, v1, v2, .int a] (.int a :: st) I J Q := rL f7_13 rfl rfl
theorem x7_14 : Rn S 7 14 [v0, .int a, v2, v3] st I J Q = Rn S 7 15 [v0, .int a, v2, v3] (.int a :: st) I J Q := rL f7_14 rfl rfl
theorem x7_15 : Rn S 7 15 [v0, v1, v2, v3] (.int a1 :: .int a0 :: .ref q :: st) I J Q = ((zcls S q = 0 ∧ zcs st ≤ 8) ∧ Rn S 6 0 [.ref q, .int a0, .int a1] [] I J (fun v I' J' => Rn S 7 18 [v0, v1, v2, v3] (v.toList ++ st) I' J' Q)) := rCV (As := [.int a0, .int a1]) f7_15 rfl rfl rfl rfl (Nat.le_of_ble_eq_true rfl)
theorem x7_18 : Rn S 7 18 [v0, v1, v2, v3] (.int a :: st) I J Q = if a = 0 then Rn S 7 27 [v0, v1, v2, v3] st I J Q else Rn S 7 21 [v0, v1, v2, v3] st I J Q := rIeq f7_18 rfl rfl
theorem x7_21 : Rn S 7 21 [v0, v1, .int a, v3] st I J Q = Rn S 7 22 [v0, v1, .int a, v3] (.int a :: st) I J Q := rL f7_21 rfl rfl
theorem x7_22 : Rn S 7 22 [v0, v1, v2, v3] st I J Q = Rn S 7 23 [v0, v1, v2, v3] (.int 1 :: st) I J Q := rS f7_22 rfl
theorem x7_23 : Rn S 7 23 [v0, v1, v2, .int a] st I J Q = Rn S 7 24 [v0, v1, v2, .int a] (.int a :: st) I J Q := rL f7_23 rfl rfl
theorem x7_24 : Rn S 7 24 [v0, v1, v2, v3] (.int b :: .int a :: st) I J Q = Rn S 7 25 [v0, v1, v2, v3] (.int (a <<< (b &&& 31)) :: st) I J Q := rS f7_24 rfl
theorem x7_25 : Rn S 7 25 [v0, v1, v2, v3] (.int b :: .int a :: st) I J Q = Rn S 7 26 [v0, v1, v2, v3] (.int (a ||| b) :: st) I J Q := rS f7_25 rfl
theorem x7_26 : Rn S 7 26 [v0, v1, v2, v3] (.int a :: st) I J Q = Rn S 7 27 [v0, zkl v1, .int a, v3] st I J Q := rL f7_26 rfl rfl
theorem x7_27 : Rn S 7 27 [v0, v1, v2, .int a] st I J Q = Rn S 7 30 [v0, v1, zkl v2, .int (a + 1)] st I J Q := rL f7_27 rfl rfl
theorem x7_30 : Rn S 7 30 [v0, v1, v2, v3] st I J Q = Rn S 7 4 [v0, v1, v2, v3] st I J Q := rB f7_30 rfl rfl rfl
theorem x7_33 : Rn S 7 33 [v0, v1, .int a, v3] st I J Q = Rn S 7 34 [v0, v1, .int a, v3] (.int a :: st) I J Q := rL f7_33 rfl rfl
theorem x7_34 : Rn S 7 34 [v0, v1, v2, v3] [.int a] I J Q = Q (some (.int a)) I J := rR f7_34 rfl rfl rfl rfl rfl
/-! X0.harmOf: 8 -/
theorem B8 : zB 8 = cX0_harmOf := rfl
theorem f8_0 : zft 8 0 = some (.iconst 0, 1) := fet B8 (by decide +kernel) (Or.inr rfl)
theorem f8_1 : zft 8 1 = some (.istore_n 2, 1) := fet B8 (by decide +kernel) (Or.inr rfl)
theorem f8_2 : zft 8 2 = some (.iconst 0, 1) := fet B8 (by decide +kernel) (Or.inr rfl)
theorem f8_3 : zft 8 3 = some (.istore_n 3, 1) := fet B8 (by decide +kernel) (Or.inr rfl)
theorem f8_4 : zft 8 4 = some (.iload_n 3, 1) := fet B8 (by decide +kernel) (Or.inr rfl)
theorem f8_5 : zft 8 5 = some (.aload_n 0, 1) := fet B8 (by decide +kernel) (Or.inr rfl)
theorem f8_6 : zft 8 6 = some (.getfield 65, 3) := fet B8 (by decide +kernel) (Or.inr rfl)
theorem f8_9 : zft 8 9 = some (.if_icmp .ge 28, 3) := fet B8 (by decide +kernel) (Or.inr rfl)
theorem f8_12 : zft 8 12 = some (.aload_n 0, 1) := fet B8 (by decide +kernel) (Or.inr rfl)
theorem f8_13 : zft 8 13 = some (.getfield 9, 3) := fet B8 (by decide +kernel) (Or.inr rfl)
theorem f8_16 : zft 8 16 = some (.iload_n 3, 1) := fet B8 (by decide +kernel) (Or.inr rfl)
theorem f8_17 : zft 8 17 = some (.iaload, 1) := fet B8 (by decide +kernel) (Or.inr rfl)
theorem f8_18 : zft 8 18 = some (.iconst (-1), 1) := fet B8 (by decide +kernel) (Or.inr rfl)
theorem f8_19 : zft 8 19 = some (.if_icmp .ne 12, 3) := fet B8 (by decide +kernel) (Or.inr rfl)
theorem f8_22 : zft 8 22 = some (.iload_n 2, 1) := fet B8 (by decide +kernel) (Or.inr rfl)
theorem f8_23 : zft 8 23 = some (.aload_n 1, 1) := fet B8 (by decide +kernel) (Or.inr rfl)
theorem f8_24 : zft 8 24 = some (.getfield 100, 3) := fet B8 (by decide +kernel) (Or.inr rfl)
theorem f8_27 : zft 8 27 = some (.iload_n 3, 1) := fet B8 (by decide +kernel) (Or.inr rfl)
theorem f8_28 : zft 8 28 = some (.iaload, 1) := fet B8 (by decide +kernel) (Or.inr rfl)
theorem f8_29 : zft 8 29 = some (.iadd, 1) := fet B8 (by decide +kernel) (Or.inr rfl)
theorem f8_30 : zft 8 30 = some (.istore_n 2, 1) := fet B8 (by decide +kernel) (Or.inr rfl)
theorem f8_31 : zft 8 31 = some (.iinc 3 1, 3) := fet B8 (by decide +kernel) (Or.inr rfl)
theorem f8_34 : zft 8 34 = some (.goto (-30), 3) := fet B8 (by decide +kernel) (Or.inr rfl)
theorem f8_37 : zft 8 37 = some (.iload_n 2, 1) := fet B8 (by decide +kernel) (Or.inr rfl)
theorem f8_38 : zft 8 38 = some (.ireturn, 1) := fet B8 (by decide +kernel) (Or.inr rfl)
theorem x8_0 : Rn S 8 0 [v0, v1, v2, v3] st I J Q = Rn S 8 1 [v0, v1, v2, v3] (.int 0 :: st) I J Q := rS f8_0 rfl
theorem x8_1 : Rn S 8 1 [v0, v1, v2, v3] (.int a :: st) I J Q = Rn S 8 2 [v0, zkl v1, .int a, v3] st I J Q := rL f8_1 rfl rfl
theorem x8_2 : Rn S 8 2 [v0, v1, v2, v3] st I J Q = Rn S 8 3 [v0, v1, v2, v3] (.int 0 :: st) I J Q := rS f8_2 rfl
theorem x8_3 : Rn S 8 3 [v0, v1, v2, v3] (.int a :: st) I J Q = Rn S 8 4 [v0, v1, zkl v2, .int a] st I J Q := rL f8_3 rfl rfl
theorem h8_4 : Rn S 8 4 [v0, v1, v2, .int a] st I J Q = Rn S 8 5 [v0, v1, v2, .int a] (.int a :: st) I J Q := rL f8_4 rfl rfl
theorem x8_5 : Rn S 8 5 [.ref q, v1, v2, v3] st I J Q = Rn S 8 6 [.ref q, v1, v2, v3] (.ref q :: st) I J Q := rL f8_5 rfl rfl
theorem x8_6_18 : Rn (zG xl) 8 6 [v0, v1, v2, v3] (.ref 18 :: st) I J Q = Rn (zG xl) 8 9 [v0, v1, v2, v3] (.int (I 18 0) :: st) I J Q := (rGf f8_6 rfl).trans (tr_and rfl)
theorem x8_6_38 : Rn (zG xl) 8 6 [v0, v1, v2, v3] (.ref 38 :: st) I J Q = Rn (zG xl) 8 9 [v0, v1, v2, v3] (.int (I 38 0) :: st) I J Q := (rGf f8_6 rfl).trans (tr_and rfl)
theorem x8_9 : Rn S 8 9 [v0, v1, v2, v3] (.int b :: .int a :: st) I J Q = if a < b then Rn S 8 12 [v0, v1, v2, v3] st I J Q else Rn S 8 37 [v0, v1, v2, v3] st I J Q := rCge f8_9 rfl rfl
theorem x8_12 : Rn S 8 12 [.ref q, v1, v2, v3] st I J Q = Rn S 8 13 [.ref q, v1, v2, v3] (.ref q :: st) I J Q := rL f8_12 rfl rfl
theorem x8_13_18 : Rn (zG xl) 8 13 [v0, v1, v2, v3] (.ref 18 :: st) I J Q = Rn (zG xl) 8 16 [v0, v1, v2, v3] (.ref 19 :: st) I J Q := (rGf f8_13 rfl).trans (tr_and rfl)
theorem x8_13_38 : Rn (zG xl) 8 13 [v0, v1, v2, v3] (.ref 38 :: st) I J Q = Rn (zG xl) 8 16 [v0, v1, v2, v3] (.ref 39 :: st) I J Q := (rGf f8_13 rfl).trans (tr_and rfl)
theorem x8_16 : Rn S 8 16 [v0, v1, v2, .int a] st I J Q = Rn S 8 17 [v0, v1, v2, .int a] (.int a :: st) I J Q := rL f8_16 rfl rfl
theorem x8_17 : Rn S 8 17 [v0, v1, v2, v3] (.int a :: .ref q :: st) I J Q = (zai S q a ∧ Rn S 8 18 [v0, v1, v2, v3] (.int (I q a.toNatClampNeg) :: st) I J Q) := rIal f8_17
theorem x8_18 : Rn S 8 18 [v0, v1, v2, v3] st I J Q = Rn S 8 19 [v0, v1, v2, v3] (.int (-1) :: st) I J Q := rS f8_18 rfl
theorem x8_19 : Rn S 8 19 [v0, v1, v2, v3] (.int b :: .int a :: st) I J Q = if a = b then Rn S 8 22 [v0, v1, v2, v3] st I J Q else Rn S 8 31 [v0, v1, v2, v3] st I J Q := rCne f8_19 rfl rfl
theorem x8_22 : Rn S 8 22 [v0, v1, .int a, v3] st I J Q = Rn S 8 23 [v0, v1, .int a, v3] (.int a :: st) I J Q := rL f8_22 rfl rfl
theorem x8_23 : Rn S 8 23 [v0, .ref q, v2, v3] st I J Q = Rn S 8 24 [v0, .ref q, v2, v3] (.ref q :: st) I J Q := rL f8_23 rfl rfl
theorem x8_24_8 : Rn (zG xl) 8 24 [v0, v1, v2, v3] (.ref 8 :: st) I J Q = Rn (zG xl) 8 27 [v0, v1, v2, v3] (.ref 10 :: st) I J Q := (rGf f8_24 rfl).trans (tr_and rfl)
theorem x8_24_28 : Rn (zG xl) 8 24 [v0, v1, v2, v3] (.ref 28 :: st) I J Q = Rn (zG xl) 8 27 [v0, v1, v2, v3] (.ref 30 :: st) I J Q := (rGf f8_24 rfl).trans (tr_and rfl)
theorem x8_27 : Rn S 8 27 [v0, v1, v2, .int a] st I J Q = Rn S 8 28 [v0, v1, v2, .int a] (.int a :: st) I J Q := rL f8_27 rfl rfl
theorem x8_28 : Rn S 8 28 [v0, v1, v2, v3] (.int a :: .ref q :: st) I J Q = (zai S q a ∧ Rn S 8 29 [v0, v1, v2, v3] (.int (I q a.toNatClampNeg) :: st) I J Q) := rIal f8_28
theorem x8_29 : Rn S 8 29 [v0, v1, v2, v3] (.int b :: .int a :: st) I J Q = Rn S 8 30 [v0, v1, v2, v3] (.int (a + b) :: st) I J Q := rS f8_29 rfl
theorem x8_30 : Rn S 8 30 [v0, v1, v2, v3] (.int a :: st) I J Q = Rn S 8 31 [v0, zkl v1, .int a, v3] st I J Q := rL f8_30 rfl rfl
theorem x8_31 : Rn S 8 31 [v0, v1, v2, .int a] st I J Q = Rn S 8 34 [v0, v1, zkl v2, .int (a + 1)] st I J Q := rL f8_31 rfl rfl
theorem x8_34 : Rn S 8 34 [v0, v1, v2, v3] st I J Q = Rn S 8 4 [v0, v1, v2, v3] st I J Q := rB f8_34 rfl rfl rfl
theorem x8_37 : Rn S 8 37 [v0, v1, .int a, v3] st I J Q = Rn S 8 38 [v0, v1, .int a, v3] (.int a :: st) I J Q := rL f8_37 rfl rfl
theorem x8_38 : Rn S 8 38 [v0, v1, v2, v3] [.int a] I J Q = Q (some (.int a)) I J := rR f8_38 rfl rfl rfl rfl rfl
/-! X0.unread: 9 -/
theorem B9 : zB 9 = cX0_unread := rfl
theorem f9_0 : zft 9 0 = some (.iconst 0, 1) := fet B9 (by decide +kernel) (Or.inr rfl)
theorem f9_1 : zft 9 1 = some (.istore_n 1, 1) := fet B9 (by decide +kernel) (Or.inr rfl)
theorem f9_2 : zft 9 2 = some (.iconst 0, 1) := fet B9 (by decide +kernel) (Or.inr rfl)
theorem f9_3 : zft 9 3 = some (.istore_n 2, 1) := fet B9 (by decide +kernel) (Or.inr rfl)
theorem f9_4 : zft 9 4 = some (.iload_n 2, 1) := fet B9 (by decide +kernel) (Or.inr rfl)
theorem f9_5 : zft 9 5 = some (.aload_n 0, 1) := fet B9 (by decide +kernel) (Or.inr rfl)
theorem f9_6 : zft 9 6 = some (.getfield 65, 3) := fet B9 (by decide +kernel) (Or.inr rfl)
theorem f9_9 : zft 9 9 = some (.if_icmp .ge 24, 3) := fet B9 (by decide +kernel) (Or.inr rfl)
theorem f9_12 : zft 9 12 = some (.aload_n 0, 1) := fet B9 (by decide +kernel) (Or.inr rfl)
theorem f9_13 : zft 9 13 = some (.getfield 18, 3) := fet B9 (by decide +kernel) (Or.inr rfl)
theorem f9_16 : zft 9 16 = some (.iload_n 2, 1) := fet B9 (by decide +kernel) (Or.inr rfl)
theorem f9_17 : zft 9 17 = some (.iaload, 1) := fet B9 (by decide +kernel) (Or.inr rfl)
theorem f9_18 : zft 9 18 = some (.ifCond .ne 9, 3) := fet B9 (by decide +kernel) (Or.inr rfl)
theorem f9_21 : zft 9 21 = some (.iload_n 1, 1) := fet B9 (by decide +kernel) (Or.inr rfl)
theorem f9_22 : zft 9 22 = some (.iconst 1, 1) := fet B9 (by decide +kernel) (Or.inr rfl)
theorem f9_23 : zft 9 23 = some (.iload_n 2, 1) := fet B9 (by decide +kernel) (Or.inr rfl)
theorem f9_24 : zft 9 24 = some (.ishl, 1) := fet B9 (by decide +kernel) (Or.inr rfl)
theorem f9_25 : zft 9 25 = some (.ior, 1) := fet B9 (by decide +kernel) (Or.inr rfl)
theorem f9_26 : zft 9 26 = some (.istore_n 1, 1) := fet B9 (by decide +kernel) (Or.inr rfl)
theorem f9_27 : zft 9 27 = some (.iinc 2 1, 3) := fet B9 (by decide +kernel) (Or.inr rfl)
theorem f9_30 : zft 9 30 = some (.goto (-26), 3) := fet B9 (by decide +kernel) (Or.inr rfl)
theorem f9_33 : zft 9 33 = some (.iload_n 1, 1) := fet B9 (by decide +kernel) (Or.inr rfl)
theorem f9_34 : zft 9 34 = some (.ireturn, 1) := fet B9 (by decide +kernel) (Or.inr rfl)
theorem x9_0 : Rn S 9 0 [v0, v1, v2] st I J Q = Rn S 9 1 [v0, v1, v2] (.int 0 :: st) I J Q := rS f9_0 rfl
theorem x9_1 : Rn S 9 1 [v0, v1, v2] (.int a :: st) I J Q = Rn S 9 2 [zkl v0, .int a, v2] st I J Q := rL f9_1 rfl rfl
theorem x9_2 : Rn S 9 2 [v0, v1, v2] st I J Q = Rn S 9 3 [v0, v1, v2] (.int 0 :: st) I J Q := rS f9_2 rfl
theorem x9_3 : Rn S 9 3 [v0, v1, v2] (.int a :: st) I J Q = Rn S 9 4 [v0, zkl v1, .int a] st I J Q := rL f9_3 rfl rfl
theorem h9_4 : Rn S 9 4 [v0, v1, .int a] st I J Q = Rn S 9 5 [v0, v1, .int a] (.int a :: st) I J Q := rL f9_4 rfl rfl
theorem x9_5 : Rn S 9 5 [.ref q, v1, v2] st I J Q = Rn S 9 6 [.ref q, v1, v2] (.ref q :: st) I J Q := rL f9_5 rfl rfl
theorem x9_6_18 : Rn (zG xl) 9 6 [v0, v1, v2] (.ref 18 :: st) I J Q = Rn (zG xl) 9 9 [v0, v1, v2] (.int (I 18 0) :: st) I J Q := (rGf f9_6 rfl).trans (tr_and rfl)
theorem x9_6_38 : Rn (zG xl) 9 6 [v0, v1, v2] (.ref 38 :: st) I J Q = Rn (zG xl) 9 9 [v0, v1, v2] (.int (I 38 0) :: st) I J Q := (rGf f9_6 rfl).trans (tr_and rfl)
theorem x9_9 : Rn S 9 9 [v0, v1, v2] (.int b :: .int a :: st) I J Q = if a < b then Rn S 9 12 [v0, v1, v2] st I J Q else Rn S 9 33 [v0, v1, v2] st I J Q := rCge f9_9 rfl rfl
theorem x9_12 : Rn S 9 12 [.ref q, v1, v2] st I J Q = Rn S 9 13 [.ref q, v1, v2] (.ref q :: st) I J Q := rL f9_12 rfl rfl
theorem x9_13_18 : Rn (zG xl) 9 13 [v0, v1, v2] (.ref 18 :: st) I J Q = Rn (zG xl) 9 16 [v0, v1, v2] (.ref 21 :: st) I J Q := (rGf f9_13 rfl).trans (tr_and rfl)
theorem x9_13_38 : Rn (zG xl) 9 13 [v0, v1, v2] (.ref 38 :: st) I J Q = Rn (zG xl) 9 16 [v0, v1, v2] (.ref 41 :: st) I J Q := (rGf f9_13 rfl).trans (tr_and rfl)
theorem x9_16 : Rn S 9 16 [v0, v1, .int a] st I J Q = Rn S 9 17 [v0, v1, .int a] (.int a :: st) I J Q := rL f9_16 rfl rfl
theorem x9_17 : Rn S 9 17 [v0, v1, v2] (.int a :: .ref q :: st) I J Q = (zai S q a ∧ Rn S 9 18 [v0, v1, v2] (.int (I q a.toNatClampNeg) :: st) I J Q) := rIal f9_17
theorem x9_18 : Rn S 9 18 [v0, v1, v2] (.int a :: st) I J Q = if a = 0 then Rn S 9 21 [v0, v1, v2] st I J Q else Rn S 9 27 [v0, v1, v2] st I J Q := rIne f9_18 rfl rfl
theorem x9_21 : Rn S 9 21 [v0, .int a, v2] st I J Q = Rn S 9 22 [v0, .int a, v2] (.int a :: st) I J Q := rL f9_21 rfl rfl
theorem x9_22 : Rn S 9 22 [v0, v1, v2] st I J Q = Rn S 9 23 [v0, v1, v2] (.int 1 :: st) I J Q := rS f9_22 rfl
theorem x9_23 : Rn S 9 23 [v0, v1, .int a] st I J Q = Rn S 9 24 [v0, v1, .int a] (.int a :: st) I J Q := rL f9_23 rfl rfl
theorem x9_24 : Rn S 9 24 [v0, v1, v2] (.int b :: .int a :: st) I J Q = Rn S 9 25 [v0, v1, v2] (.int (a <<< (b &&& 31)) :: st) I J Q := rS f9_24 rfl
theorem x9_25 : Rn S 9 25 [v0, v1, v2] (.int b :: .int a :: st) I J Q = Rn S 9 26 [v0, v1, v2] (.int (a ||| b) :: st) I J Q := rS f9_25 rfl
theorem x9_26 : Rn S 9 26 [v0, v1, v2] (.int a :: st) I J Q = Rn S 9 27 [zkl v0, .int a, v2] st I J Q := rL f9_26 rfl rfl
theorem x9_27 : Rn S 9 27 [v0, v1, .int a] st I J Q = Rn S 9 30 [v0, zkl v1, .int (a + 1)] st I J Q := rL f9_27 rfl rfl
theorem x9_30 : Rn S 9 30 [v0, v1, v2] st I J Q = Rn S 9 4 [v0, v1, v2] st I J Q := rB f9_30 rfl rfl rfl
theorem x9_33 : Rn S 9 33 [v0, .int a, v2] st I J Q = Rn S 9 34 [v0, .int a, v2] (.int a :: st) I J Q := rL f9_33 rfl rfl
theorem x9_34 : Rn S 9 34 [v0, v1, v2] [.int a] I J Q = Q (some (.int a)) I J := rR f9_34 rfl rfl rfl rfl rfl
/-! X0.passed: 10 -/
theorem B10 : zB 10 = cX0_passed := rfl
theorem f10_0 : zft 10 0 = some (.iconst 0, 1) := fet B10 (by decide +kernel) (Or.inr rfl)
theorem f10_1 : zft 10 1 = some (.istore_n 1, 1) := fet B10 (by decide +kernel) (Or.inr rfl)
theorem f10_2 : zft 10 2 = some (.iconst 0, 1) := fet B10 (by decide +kernel) (Or.inr rfl)
theorem f10_3 : zft 10 3 = some (.istore_n 2, 1) := fet B10 (by decide +kernel) (Or.inr rfl)
theorem f10_4 : zft 10 4 = some (.iload_n 2, 1) := fet B10 (by decide +kernel) (Or.inr rfl)
theorem f10_5 : zft 10 5 = some (.aload_n 0, 1) := fet B10 (by decide +kernel) (Or.inr rfl)
theorem f10_6 : zft 10 6 = some (.getfield 65, 3) := fet B10 (by decide +kernel) (Or.inr rfl)
theorem f10_9 : zft 10 9 = some (.if_icmp .ge 34, 3) := fet B10 (by decide +kernel) (Or.inr rfl)
theorem f10_12 : zft 10 12 = some (.aload_n 0, 1) := fet B10 (by decide +kernel) (Or.inr rfl)
theorem f10_13 : zft 10 13 = some (.getfield 18, 3) := fet B10 (by decide +kernel) (Or.inr rfl)
theorem f10_16 : zft 10 16 = some (.iload_n 2, 1) := fet B10 (by decide +kernel) (Or.inr rfl)
theorem f10_17 : zft 10 17 = some (.iaload, 1) := fet B10 (by decide +kernel) (Or.inr rfl)
theorem f10_18 : zft 10 18 = some (.ifCond .le 19, 3) := fet B10 (by decide +kernel) (Or.inr rfl)
theorem f10_21 : zft 10 21 = some (.aload_n 0, 1) := fet B10 (by decide +kernel) (Or.inr rfl)
theorem f10_22 : zft 10 22 = some (.getfield 9, 3) := fet B10 (by decide +kernel) (Or.inr rfl)
theorem f10_25 : zft 10 25 = some (.iload_n 2, 1) := fet B10 (by decide +kernel) (Or.inr rfl)
theorem f10_26 : zft 10 26 = some (.iaload, 1) := fet B10 (by decide +kernel) (Or.inr rfl)
theorem f10_27 : zft 10 27 = some (.iconst (-1), 1) := fet B10 (by decide +kernel) (Or.inr rfl)
theorem f10_28 : zft 10 28 = some (.if_icmp .ne 9, 3) := fet B10 (by decide +kernel) (Or.inr rfl)
theorem f10_31 : zft 10 31 = some (.iload_n 1, 1) := fet B10 (by decide +kernel) (Or.inr rfl)
theorem f10_32 : zft 10 32 = some (.iconst 1, 1) := fet B10 (by decide +kernel) (Or.inr rfl)
theorem f10_33 : zft 10 33 = some (.iload_n 2, 1) := fet B10 (by decide +kernel) (Or.inr rfl)
theorem f10_34 : zft 10 34 = some (.ishl, 1) := fet B10 (by decide +kernel) (Or.inr rfl)
theorem f10_35 : zft 10 35 = some (.ior, 1) := fet B10 (by decide +kernel) (Or.inr rfl)
theorem f10_36 : zft 10 36 = some (.istore_n 1, 1) := fet B10 (by decide +kernel) (Or.inr rfl)
theorem f10_37 : zft 10 37 = some (.iinc 2 1, 3) := fet B10 (by decide +kernel) (Or.inr rfl)
theorem f10_40 : zft 10 40 = some (.goto (-36), 3) := fet B10 (by decide +kernel) (Or.inr rfl)
theorem f10_43 : zft 10 43 = some (.iload_n 1, 1) := fet B10 (by decide +kernel) (Or.inr rfl)
theorem f10_44 : zft 10 44 = some (.ireturn, 1) := fet B10 (by decide +kernel) (Or.inr rfl)
theorem x10_0 : Rn S 10 0 [v0, v1, v2] st I J Q = Rn S 10 1 [v0, v1, v2] (.int 0 :: st) I J Q := rS f10_0 rfl
theorem x10_1 : Rn S 10 1 [v0, v1, v2] (.int a :: st) I J Q = Rn S 10 2 [zkl v0, .int a, v2] st I J Q := rL f10_1 rfl rfl
theorem x10_2 : Rn S 10 2 [v0, v1, v2] st I J Q = Rn S 10 3 [v0, v1, v2] (.int 0 :: st) I J Q := rS f10_2 rfl
theorem x10_3 : Rn S 10 3 [v0, v1, v2] (.int a :: st) I J Q = Rn S 10 4 [v0, zkl v1, .int a] st I J Q := rL f10_3 rfl rfl
theorem h10_4 : Rn S 10 4 [v0, v1, .int a] st I J Q = Rn S 10 5 [v0, v1, .int a] (.int a :: st) I J Q := rL f10_4 rfl rfl
theorem x10_5 : Rn S 10 5 [.ref q, v1, v2] st I J Q = Rn S 10 6 [.ref q, v1, v2] (.ref q :: st) I J Q := rL f10_5 rfl rfl
theorem x10_6_18 : Rn (zG xl) 10 6 [v0, v1, v2] (.ref 18 :: st) I J Q = Rn (zG xl) 10 9 [v0, v1, v2] (.int (I 18 0) :: st) I J Q := (rGf f10_6 rfl).trans (tr_and rfl)
theorem x10_6_38 : Rn (zG xl) 10 6 [v0, v1, v2] (.ref 38 :: st) I J Q = Rn (zG xl) 10 9 [v0, v1, v2] (.int (I 38 0) :: st) I J Q := (rGf f10_6 rfl).trans (tr_and rfl)
theorem x10_9 : Rn S 10 9 [v0, v1, v2] (.int b :: .int a :: st) I J Q = if a < b then Rn S 10 12 [v0, v1, v2] st I J Q else Rn S 10 43 [v0, v1, v2] st I J Q := rCge f10_9 rfl rfl
theorem x10_12 : Rn S 10 12 [.ref q, v1, v2] st I J Q = Rn S 10 13 [.ref q, v1, v2] (.ref q :: st) I J Q := rL f10_12 rfl rfl
theorem x10_13_18 : Rn (zG xl) 10 13 [v0, v1, v2] (.ref 18 :: st) I J Q = Rn (zG xl) 10 16 [v0, v1, v2] (.ref 21 :: st) I J Q := (rGf f10_13 rfl).trans (tr_and rfl)
theorem x10_13_38 : Rn (zG xl) 10 13 [v0, v1, v2] (.ref 38 :: st) I J Q = Rn (zG xl) 10 16 [v0, v1, v2] (.ref 41 :: st) I J Q := (rGf f10_13 rfl).trans (tr_and rfl)
theorem x10_16 : Rn S 10 16 [v0, v1, .int a] st I J Q = Rn S 10 17 [v0, v1, .int a] (.int a :: st) I J Q := rL f10_16 rfl rfl
theorem x10_17 : Rn S 10 17 [v0, v1, v2] (.int a :: .ref q :: st) I J Q = (zai S q a ∧ Rn S 10 18 [v0, v1, v2] (.int (I q a.toNatClampNeg) :: st) I J Q) := rIal f10_17
theorem x10_18 : Rn S 10 18 [v0, v1, v2] (.int a :: st) I J Q = if 0 < a then Rn S 10 21 [v0, v1, v2] st I J Q else Rn S 10 37 [v0, v1, v2] st I J Q := rIle f10_18 rfl rfl
theorem x10_21 : Rn S 10 21 [.ref q, v1, v2] st I J Q = Rn S 10 22 [.ref q, v1, v2] (.ref q :: st) I J Q := rL f10_21 rfl rfl
theorem x10_22_18 : Rn (zG xl) 10 22 [v0, v1, v2] (.ref 18 :: st) I J Q = Rn (zG xl) 10 25 [v0, v1, v2] (.ref 19 :: st) I J Q := (rGf f10_22 rfl).trans (tr_and rfl)
theorem x10_22_38 : Rn (zG xl) 10 22 [v0, v1, v2] (.ref 38 :: st) I J Q = Rn (zG xl) 10 25 [v0, v1, v2] (.ref 39 :: st) I J Q := (rGf f10_22 rfl).trans (tr_and rfl)
theorem x10_25 : Rn S 10 25 [v0, v1, .int a] st I J Q = Rn S 10 26 [v0, v1, .int a] (.int a :: st) I J Q := rL f10_25 rfl rfl
theorem x10_26 : Rn S 10 26 [v0, v1, v2] (.int a :: .ref q :: st) I J Q = (zai S q a ∧ Rn S 10 27 [v0, v1, v2] (.int (I q a.toNatClampNeg) :: st) I J Q) := rIal f10_26
theorem x10_27 : Rn S 10 27 [v0, v1, v2] st I J Q = Rn S 10 28 [v0, v1, v2] (.int (-1) :: st) I J Q := rS f10_27 rfl
theorem x10_28 : Rn S 10 28 [v0, v1, v2] (.int b :: .int a :: st) I J Q = if a = b then Rn S 10 31 [v0, v1, v2] st I J Q else Rn S 10 37 [v0, v1, v2] st I J Q := rCne f10_28 rfl rfl
theorem x10_31 : Rn S 10 31 [v0, .int a, v2] st I J Q = Rn S 10 32 [v0, .int a, v2] (.int a :: st) I J Q := rL f10_31 rfl rfl
theorem x10_32 : Rn S 10 32 [v0, v1, v2] st I J Q = Rn S 10 33 [v0, v1, v2] (.int 1 :: st) I J Q := rS f10_32 rfl
theorem x10_33 : Rn S 10 33 [v0, v1, .int a] st I J Q = Rn S 10 34 [v0, v1, .int a] (.int a :: st) I J Q := rL f10_33 rfl rfl
theorem x10_34 : Rn S 10 34 [v0, v1, v2] (.int b :: .int a :: st) I J Q = Rn S 10 35 [v0, v1, v2] (.int (a <<< (b &&& 31)) :: st) I J Q := rS f10_34 rfl
theorem x10_35 : Rn S 10 35 [v0, v1, v2] (.int b :: .int a :: st) I J Q = Rn S 10 36 [v0, v1, v2] (.int (a ||| b) :: st) I J Q := rS f10_35 rfl
theorem x10_36 : Rn S 10 36 [v0, v1, v2] (.int a :: st) I J Q = Rn S 10 37 [zkl v0, .int a, v2] st I J Q := rL f10_36 rfl rfl
theorem x10_37 : Rn S 10 37 [v0, v1, .int a] st I J Q = Rn S 10 40 [v0, zkl v1, .int (a + 1)] st I J Q := rL f10_37 rfl rfl
theorem x10_40 : Rn S 10 40 [v0, v1, v2] st I J Q = Rn S 10 4 [v0, v1, v2] st I J Q := rB f10_40 rfl rfl rfl
theorem x10_43 : Rn S 10 43 [v0, .int a, v2] st I J Q = Rn S 10 44 [v0, .int a, v2] (.int a :: st) I J Q := rL f10_43 rfl rfl
theorem x10_44 : Rn S 10 44 [v0, v1, v2] [.int a] I J Q = Q (some (.int a)) I J := rR f10_44 rfl rfl rfl rfl rfl
/-! X1.takeTexts: 12 -/
theorem B12 : zB 12 = cX1_takeTexts := rfl
theorem f12_0 : zft 12 0 = some (.aload_n 0, 1) := fet B12 (by decide +kernel) (Or.inr rfl)
theorem f12_1 : zft 12 1 = some (.aload_n 1, 1) := fet B12 (by decide +kernel) (Or.inr rfl)
theorem f12_2 : zft 12 2 = some (.aload_n 0, 1) := fet B12 (by decide +kernel) (Or.inr rfl)
theorem f12_3 : zft 12 3 = some (.getfield 9, 3) := fet B12 (by decide +kernel) (Or.inr rfl)
theorem f12_6 : zft 12 6 = some (.aload_n 0, 1) := fet B12 (by decide +kernel) (Or.inr rfl)
theorem f12_7 : zft 12 7 = some (.getfield 15, 3) := fet B12 (by decide +kernel) (Or.inr rfl)
theorem f12_10 : zft 12 10 = some (.invokestatic 43, 3) := fet B12 (by decide +kernel) (Or.inr rfl)
theorem f12_13 : zft 12 13 = some (.putfield 47, 3) := fet B12 (by decide +kernel) (Or.inr rfl)
theorem f12_16 : zft 12 16 = some (.aload_n 0, 1) := fet B12 (by decide +kernel) (Or.inr rfl)
theorem f12_17 : zft 12 17 = some (.aload_n 2, 1) := fet B12 (by decide +kernel) (Or.inr rfl)
theorem f12_18 : zft 12 18 = some (.aload_n 0, 1) := fet B12 (by decide +kernel) (Or.inr rfl)
theorem f12_19 : zft 12 19 = some (.getfield 18, 3) := fet B12 (by decide +kernel) (Or.inr rfl)
theorem f12_22 : zft 12 22 = some (.aload_n 0, 1) := fet B12 (by decide +kernel) (Or.inr rfl)
theorem f12_23 : zft 12 23 = some (.getfield 21, 3) := fet B12 (by decide +kernel) (Or.inr rfl)
theorem f12_26 : zft 12 26 = some (.invokestatic 43, 3) := fet B12 (by decide +kernel) (Or.inr rfl)
theorem f12_29 : zft 12 29 = some (.putfield 50, 3) := fet B12 (by decide +kernel) (Or.inr rfl)
theorem f12_32 : zft 12 32 = some (.aload_n 0, 1) := fet B12 (by decide +kernel) (Or.inr rfl)
theorem f12_33 : zft 12 33 = some (.aload_n 3, 1) := fet B12 (by decide +kernel) (Or.inr rfl)
theorem f12_34 : zft 12 34 = some (.aload_n 0, 1) := fet B12 (by decide +kernel) (Or.inr rfl)
theorem f12_35 : zft 12 35 = some (.getfield 24, 3) := fet B12 (by decide +kernel) (Or.inr rfl)
theorem f12_38 : zft 12 38 = some (.aload_n 0, 1) := fet B12 (by decide +kernel) (Or.inr rfl)
theorem f12_39 : zft 12 39 = some (.getfield 27, 3) := fet B12 (by decide +kernel) (Or.inr rfl)
theorem f12_42 : zft 12 42 = some (.invokestatic 43, 3) := fet B12 (by decide +kernel) (Or.inr rfl)
theorem f12_45 : zft 12 45 = some (.putfield 53, 3) := fet B12 (by decide +kernel) (Or.inr rfl)
theorem f12_48 : zft 12 48 = some (.return_, 1) := fet B12 (by decide +kernel) (Or.inr rfl)
theorem x12_0 : Rn S 12 0 [.ref q, v1, v2, v3] st I J Q = Rn S 12 1 [.ref q, v1, v2, v3] (.ref q :: st) I J Q := rL f12_0 rfl rfl
theorem x12_1 : Rn S 12 1 [v0, .ref q, v2, v3] st I J Q = Rn S 12 2 [v0, .ref q, v2, v3] (.ref q :: st) I J Q := rL f12_1 rfl rfl
theorem x12_2 : Rn S 12 2 [.ref q, v1, v2, v3] st I J Q = Rn S 12 3 [.ref q, v1, v2, v3] (.ref q :: st) I J Q := rL f12_2 rfl rfl
theorem x12_3_8 : Rn (zG xl) 12 3 [v0, v1, v2, v3] (.ref 8 :: st) I J Q = Rn (zG xl) 12 6 [v0, v1, v2, v3] (.ref 9 :: st) I J Q := (rGf f12_3 rfl).trans (tr_and rfl)
theorem x12_3_28 : Rn (zG xl) 12 3 [v0, v1, v2, v3] (.ref 28 :: st) I J Q = Rn (zG xl) 12 6 [v0, v1, v2, v3] (.ref 29 :: st) I J Q := (rGf f12_3 rfl).trans (tr_and rfl)
theorem x12_6 : Rn S 12 6 [.ref q, v1, v2, v3] st I J Q = Rn S 12 7 [.ref q, v1, v2, v3] (.ref q :: st) I J Q := rL f12_6 rfl rfl
theorem x12_7_8 : Rn (zG xl) 12 7 [v0, v1, v2, v3] (.ref 8 :: st) I J Q = Rn (zG xl) 12 10 [v0, v1, v2, v3] (.ref 10 :: st) I J Q := (rGf f12_7 rfl).trans (tr_and rfl)
theorem x12_7_28 : Rn (zG xl) 12 7 [v0, v1, v2, v3] (.ref 28 :: st) I J Q = Rn (zG xl) 12 10 [v0, v1, v2, v3] (.ref 30 :: st) I J Q := (rGf f12_7 rfl).trans (tr_and rfl)
theorem x12_10 : Rn S 12 10 [v0, v1, v2, v3] (.ref q2 :: .ref q1 :: .ref q0 :: st) I J Q = (zcs st ≤ 8 ∧ Rn S 13 0 [.ref q0, .ref q1, .ref q2, .null, .null] [] I J (fun v I' J' => Rn S 12 13 [v0, v1, v2, v3] (v.toList ++ st) I' J' Q)) := rCS (As := [.ref q0, .ref q1, .ref q2]) f12_10 rfl rfl rfl rfl (Nat.le_of_ble_eq_true rfl)
theorem x12_13_8 : Rn (zG xl) 12 13 [v0, v1, v2, v3] (.int a :: .ref 8 :: st) I J Q = Rn (zG xl) 12 16 [v0, v1, v2, v3] st (zr I 8 (upd (I 8) 0 a)) J Q := (rPf f12_13 rfl).trans (tr_pf rfl rfl rfl)
theorem x12_13_28 : Rn (zG xl) 12 13 [v0, v1, v2, v3] (.int a :: .ref 28 :: st) I J Q = Rn (zG xl) 12 16 [v0, v1, v2, v3] st (zr I 28 (upd (I 28) 0 a)) J Q := (rPf f12_13 rfl).trans (tr_pf rfl rfl rfl)
theorem x12_16 : Rn S 12 16 [.ref q, v1, v2, v3] st I J Q = Rn S 12 17 [.ref q, v1, v2, v3] (.ref q :: st) I J Q := rL f12_16 rfl rfl
theorem x12_17 : Rn S 12 17 [v0, v1, .ref q, v3] st I J Q = Rn S 12 18 [v0, v1, .ref q, v3] (.ref q :: st) I J Q := rL f12_17 rfl rfl
theorem x12_18 : Rn S 12 18 [.ref q, v1, v2, v3] st I J Q = Rn S 12 19 [.ref q, v1, v2, v3] (.ref q :: st) I J Q := rL f12_18 rfl rfl
theorem x12_19_8 : Rn (zG xl) 12 19 [v0, v1, v2, v3] (.ref 8 :: st) I J Q = Rn (zG xl) 12 22 [v0, v1, v2, v3] (.ref 11 :: st) I J Q := (rGf f12_19 rfl).trans (tr_and rfl)
theorem x12_19_28 : Rn (zG xl) 12 19 [v0, v1, v2, v3] (.ref 28 :: st) I J Q = Rn (zG xl) 12 22 [v0, v1, v2, v3] (.ref 31 :: st) I J Q := (rGf f12_19 rfl).trans (tr_and rfl)
theorem x12_22 : Rn S 12 22 [.ref q, v1, v2, v3] st I J Q = Rn S 12 23 [.ref q, v1, v2, v3] (.ref q :: st) I J Q := rL f12_22 rfl rfl
theorem x12_23_8 : Rn (zG xl) 12 23 [v0, v1, v2, v3] (.ref 8 :: st) I J Q = Rn (zG xl) 12 26 [v0, v1, v2, v3] (.ref 12 :: st) I J Q := (rGf f12_23 rfl).trans (tr_and rfl)
theorem x12_23_28 : Rn (zG xl) 12 23 [v0, v1, v2, v3] (.ref 28 :: st) I J Q = Rn (zG xl) 12 26 [v0, v1, v2, v3] (.ref 32 :: st) I J Q := (rGf f12_23 rfl).trans (tr_and rfl)
theorem x12_26 : Rn S 12 26 [v0, v1, v2, v3] (.ref q2 :: .ref q1 :: .ref q0 :: st) I J Q = (zcs st ≤ 8 ∧ Rn S 13 0 [.ref q0, .ref q1, .ref q2, .null, .null] [] I J (fun v I' J' => Rn S 12 29 [v0, v1, v2, v3] (v.toList ++ st) I' J' Q)) := rCS (As := [.ref q0, .ref q1, .ref q2]) f12_26 rfl rfl rfl rfl (Nat.le_of_ble_eq_true rfl)
theorem x12_29_8 : Rn (zG xl) 12 29 [v0, v1, v2, v3] (.int a :: .ref 8 :: st) I J Q = Rn (zG xl) 12 32 [v0, v1, v2, v3] st (zr I 8 (upd (I 8) 3 a)) J Q := (rPf f12_29 rfl).trans (tr_pf rfl rfl rfl)
theorem x12_29_28 : Rn (zG xl) 12 29 [v0, v1, v2, v3] (.int a :: .ref 28 :: st) I J Q = Rn (zG xl) 12 32 [v0, v1, v2, v3] st (zr I 28 (upd (I 28) 3 a)) J Q := (rPf f12_29 rfl).trans (tr_pf rfl rfl rfl)
theorem x12_32 : Rn S 12 32 [.ref q, v1, v2, v3] st I J Q = Rn S 12 33 [.ref q, v1, v2, v3] (.ref q :: st) I J Q := rL f12_32 rfl rfl
theorem x12_33 : Rn S 12 33 [v0, v1, v2, .ref q] st I J Q = Rn S 12 34 [v0, v1, v2, .ref q] (.ref q :: st) I J Q := rL f12_33 rfl rfl
theorem x12_34 : Rn S 12 34 [.ref q, v1, v2, v3] st I J Q = Rn S 12 35 [.ref q, v1, v2, v3] (.ref q :: st) I J Q := rL f12_34 rfl rfl
theorem x12_35_8 : Rn (zG xl) 12 35 [v0, v1, v2, v3] (.ref 8 :: st) I J Q = Rn (zG xl) 12 38 [v0, v1, v2, v3] (.ref 13 :: st) I J Q := (rGf f12_35 rfl).trans (tr_and rfl)
theorem x12_35_28 : Rn (zG xl) 12 35 [v0, v1, v2, v3] (.ref 28 :: st) I J Q = Rn (zG xl) 12 38 [v0, v1, v2, v3] (.ref 33 :: st) I J Q := (rGf f12_35 rfl).trans (tr_and rfl)
theorem x12_38 : Rn S 12 38 [.ref q, v1, v2, v3] st I J Q = Rn S 12 39 [.ref q, v1, v2, v3] (.ref q :: st) I J Q := rL f12_38 rfl rfl
theorem x12_39_8 : Rn (zG xl) 12 39 [v0, v1, v2, v3] (.ref 8 :: st) I J Q = Rn (zG xl) 12 42 [v0, v1, v2, v3] (.ref 14 :: st) I J Q := (rGf f12_39 rfl).trans (tr_and rfl)
theorem x12_39_28 : Rn (zG xl) 12 39 [v0, v1, v2, v3] (.ref 28 :: st) I J Q = Rn (zG xl) 12 42 [v0, v1, v2, v3] (.ref 34 :: st) I J Q := (rGf f12_39 rfl).trans (tr_and rfl)
theorem x12_42 : Rn S 12 42 [v0, v1, v2, v3] (.ref q2 :: .ref q1 :: .ref q0 :: st) I J Q = (zcs st ≤ 8 ∧ Rn S 13 0 [.ref q0, .ref q1, .ref q2, .null, .null] [] I J (fun v I' J' => Rn S 12 45 [v0, v1, v2, v3] (v.toList ++ st) I' J' Q)) := rCS (As := [.ref q0, .ref q1, .ref q2]) f12_42 rfl rfl rfl rfl (Nat.le_of_ble_eq_true rfl)
theorem x12_45_8 : Rn (zG xl) 12 45 [v0, v1, v2, v3] (.int a :: .ref 8 :: st) I J Q = Rn (zG xl) 12 48 [v0, v1, v2, v3] st (zr I 8 (upd (I 8) 6 a)) J Q := (rPf f12_45 rfl).trans (tr_pf rfl rfl rfl)
theorem x12_45_28 : Rn (zG xl) 12 45 [v0, v1, v2, v3] (.int a :: .ref 28 :: st) I J Q = Rn (zG xl) 12 48 [v0, v1, v2, v3] st (zr I 28 (upd (I 28) 6 a)) J Q := (rPf f12_45 rfl).trans (tr_pf rfl rfl rfl)
theorem x12_48 : Rn S 12 48 [v0, v1, v2, v3] [] I J Q = Q none I J := rR f12_48 rfl rfl rfl rfl rfl
/-! X1.takePairs: 13 -/
theorem B13 : zB 13 = cX1_takePairs := rfl
theorem f13_0 : zft 13 0 = some (.aload_n 0, 1) := fet B13 (by decide +kernel) (Or.inr rfl)
theorem f13_1 : zft 13 1 = some (.invokevirtual 56, 3) := fet B13 (by decide +kernel) (Or.inr rfl)
theorem f13_4 : zft 13 4 = some (.istore_n 3, 1) := fet B13 (by decide +kernel) (Or.inr rfl)
theorem f13_5 : zft 13 5 = some (.iconst 0, 1) := fet B13 (by decide +kernel) (Or.inr rfl)
theorem f13_6 : zft 13 6 = some (.istore 4, 2) := fet B13 (by decide +kernel) (Or.inr rfl)
theorem f13_8 : zft 13 8 = some (.iload 4, 2) := fet B13 (by decide +kernel) (Or.inr rfl)
theorem f13_10 : zft 13 10 = some (.iload_n 3, 1) := fet B13 (by decide +kernel) (Or.inr rfl)
theorem f13_11 : zft 13 11 = some (.if_icmp .ge 29, 3) := fet B13 (by decide +kernel) (Or.inr rfl)
theorem f13_14 : zft 13 14 = some (.aload_n 1, 1) := fet B13 (by decide +kernel) (Or.inr rfl)
theorem f13_15 : zft 13 15 = some (.iload 4, 2) := fet B13 (by decide +kernel) (Or.inr rfl)
theorem f13_17 : zft 13 17 = some (.aload_n 0, 1) := fet B13 (by decide +kernel) (Or.inr rfl)
theorem f13_18 : zft 13 18 = some (.iload 4, 2) := fet B13 (by decide +kernel) (Or.inr rfl)
theorem f13_20 : zft 13 20 = some (.invokevirtual 62, 3) := fet B13 (by decide +kernel) (Or.inr rfl)
theorem f13_23 : zft 13 23 = some (.iastore, 1) := fet B13 (by decide +kernel) (Or.inr rfl)
theorem f13_24 : zft 13 24 = some (.aload_n 2, 1) := fet B13 (by decide +kernel) (Or.inr rfl)
theorem f13_25 : zft 13 25 = some (.iload 4, 2) := fet B13 (by decide +kernel) (Or.inr rfl)
theorem f13_27 : zft 13 27 = some (.aload_n 0, 1) := fet B13 (by decide +kernel) (Or.inr rfl)
theorem f13_28 : zft 13 28 = some (.iload 4, 2) := fet B13 (by decide +kernel) (Or.inr rfl)
theorem f13_30 : zft 13 30 = some (.invokevirtual 66, 3) := fet B13 (by decide +kernel) (Or.inr rfl)
theorem f13_33 : zft 13 33 = some (.iastore, 1) := fet B13 (by decide +kernel) (Or.inr rfl)
theorem f13_34 : zft 13 34 = some (.iinc 4 1, 3) := fet B13 (by decide +kernel) (Or.inr rfl)
theorem f13_37 : zft 13 37 = some (.goto (-29), 3) := fet B13 (by decide +kernel) (Or.inr rfl)
theorem f13_40 : zft 13 40 = some (.iload_n 3, 1) := fet B13 (by decide +kernel) (Or.inr rfl)
theorem f13_41 : zft 13 41 = some (.ireturn, 1) := fet B13 (by decide +kernel) (Or.inr rfl)
theorem x13_0 : Rn S 13 0 [.ref q, v1, v2, v3, v4] st I J Q = Rn S 13 1 [.ref q, v1, v2, v3, v4] (.ref q :: st) I J Q := rL f13_0 rfl rfl
theorem x13_1 : Rn S 13 1 [v0, v1, v2, v3, v4] (.ref q :: st) I J Q = ((zcls S q = 4 ∧ zcs st ≤ 8) ∧ Rn S 33 0 [.ref q] [] I J (fun v I' J' => Rn S 13 4 [v0, v1, v2, v3, v4] (v.toList ++ st) I' J' Q)) := rCV (As := []) f13_1 rfl rfl rfl rfl (Nat.le_of_ble_eq_true rfl)
theorem x13_4 : Rn S 13 4 [v0, v1, v2, v3, v4] (.int a :: st) I J Q = Rn S 13 5 [v0, v1, zkl v2, .int a, v4] st I J Q := rL f13_4 rfl rfl
theorem x13_5 : Rn S 13 5 [v0, v1, v2, v3, v4] st I J Q = Rn S 13 6 [v0, v1, v2, v3, v4] (.int 0 :: st) I J Q := rS f13_5 rfl
theorem x13_6 : Rn S 13 6 [v0, v1, v2, v3, v4] (.int a :: st) I J Q = Rn S 13 8 [v0, v1, v2, zkl v3, .int a] st I J Q := rL f13_6 rfl rfl
theorem h13_8 : Rn S 13 8 [v0, v1, v2, v3, .int a] st I J Q = Rn S 13 10 [v0, v1, v2, v3, .int a] (.int a :: st) I J Q := rL f13_8 rfl rfl
theorem x13_10 : Rn S 13 10 [v0, v1, v2, .int a, v4] st I J Q = Rn S 13 11 [v0, v1, v2, .int a, v4] (.int a :: st) I J Q := rL f13_10 rfl rfl
theorem x13_11 : Rn S 13 11 [v0, v1, v2, v3, v4] (.int b :: .int a :: st) I J Q = if a < b then Rn S 13 14 [v0, v1, v2, v3, v4] st I J Q else Rn S 13 40 [v0, v1, v2, v3, v4] st I J Q := rCge f13_11 rfl rfl
theorem x13_14 : Rn S 13 14 [v0, .ref q, v2, v3, v4] st I J Q = Rn S 13 15 [v0, .ref q, v2, v3, v4] (.ref q :: st) I J Q := rL f13_14 rfl rfl
theorem x13_15 : Rn S 13 15 [v0, v1, v2, v3, .int a] st I J Q = Rn S 13 17 [v0, v1, v2, v3, .int a] (.int a :: st) I J Q := rL f13_15 rfl rfl
theorem x13_17 : Rn S 13 17 [.ref q, v1, v2, v3, v4] st I J Q = Rn S 13 18 [.ref q, v1, v2, v3, v4] (.ref q :: st) I J Q := rL f13_17 rfl rfl
theorem x13_18 : Rn S 13 18 [v0, v1, v2, v3, .int a] st I J Q = Rn S 13 20 [v0, v1, v2, v3, .int a] (.int a :: st) I J Q := rL f13_18 rfl rfl
theorem x13_20 : Rn S 13 20 [v0, v1, v2, v3, v4] (.int a0 :: .ref q :: st) I J Q = ((zcls S q = 4 ∧ zcs st ≤ 8) ∧ Rn S 34 0 [.ref q, .int a0] [] I J (fun v I' J' => Rn S 13 23 [v0, v1, v2, v3, v4] (v.toList ++ st) I' J' Q)) := rCV (As := [.int a0]) f13_20 rfl rfl rfl rfl (Nat.le_of_ble_eq_true rfl)
theorem x13_23 : Rn S 13 23 [v0, v1, v2, v3, v4] (.int b :: .int a :: .ref q :: st) I J Q = (zas S q a ∧ Rn S 13 24 [v0, v1, v2, v3, v4] st (zr I q (upd (I q) a.toNatClampNeg b)) J Q) := rIas f13_23
theorem x13_24 : Rn S 13 24 [v0, v1, .ref q, v3, v4] st I J Q = Rn S 13 25 [v0, v1, .ref q, v3, v4] (.ref q :: st) I J Q := rL f13_24 rfl rfl
theorem x13_25 : Rn S 13 25 [v0, v1, v2, v3, .int a] st I J Q = Rn S 13 27 [v0, v1, v2, v3, .int a] (.int a :: st) I J Q := rL f13_25 rfl rfl
theorem x13_27 : Rn S 13 27 [.ref q, v1, v2, v3, v4] st I J Q = Rn S 13 28 [.ref q, v1, v2, v3, v4] (.ref q :: st) I J Q := rL f13_27 rfl rfl
theorem x13_28 : Rn S 13 28 [v0, v1, v2, v3, .int a] st I J Q = Rn S 13 30 [v0, v1, v2, v3, .int a] (.int a :: st) I J Q := rL f13_28 rfl rfl
theorem x13_30 : Rn S 13 30 [v0, v1, v2, v3, v4] (.int a0 :: .ref q :: st) I J Q = ((zcls S q = 4 ∧ zcs st ≤ 8) ∧ Rn S 35 0 [.ref q, .int a0] [] I J (fun v I' J' => Rn S 13 33 [v0, v1, v2, v3, v4] (v.toList ++ st) I' J' Q)) := rCV (As := [.int a0]) f13_30 rfl rfl rfl rfl (Nat.le_of_ble_eq_true rfl)
theorem x13_33 : Rn S 13 33 [v0, v1, v2, v3, v4] (.int b :: .int a :: .ref q :: st) I J Q = (zas S q a ∧ Rn S 13 34 [v0, v1, v2, v3, v4] st (zr I q (upd (I q) a.toNatClampNeg b)) J Q) := rIas f13_33
theorem x13_34 : Rn S 13 34 [v0, v1, v2, v3, .int a] st I J Q = Rn S 13 37 [v0, v1, v2, zkl v3, .int (a + 1)] st I J Q := rL f13_34 rfl rfl
theorem x13_37 : Rn S 13 37 [v0, v1, v2, v3, v4] st I J Q = Rn S 13 8 [v0, v1, v2, v3, v4] st I J Q := rB f13_37 rfl rfl rfl
theorem x13_40 : Rn S 13 40 [v0, v1, v2, .int a, v4] st I J Q = Rn S 13 41 [v0, v1, v2, .int a, v4] (.int a :: st) I J Q := rL f13_40 rfl rfl
theorem x13_41 : Rn S 13 41 [v0, v1, v2, v3, v4] [.int a] I J Q = Q (some (.int a)) I J := rR f13_41 rfl rfl rfl rfl rfl
/-! X1.takeFrom: 14 -/
theorem B14 : zB 14 = cX1_takeFrom := rfl
theorem f14_0 : zft 14 0 = some (.aload_n 0, 1) := fet B14 (by decide +kernel) (Or.inr rfl)
theorem f14_1 : zft 14 1 = some (.aload_n 1, 1) := fet B14 (by decide +kernel) (Or.inr rfl)
theorem f14_2 : zft 14 2 = some (.getfield 47, 3) := fet B14 (by decide +kernel) (Or.inr rfl)
theorem f14_5 : zft 14 5 = some (.putfield 47, 3) := fet B14 (by decide +kernel) (Or.inr rfl)
theorem f14_8 : zft 14 8 = some (.aload_n 0, 1) := fet B14 (by decide +kernel) (Or.inr rfl)
theorem f14_9 : zft 14 9 = some (.aload_n 1, 1) := fet B14 (by decide +kernel) (Or.inr rfl)
theorem f14_10 : zft 14 10 = some (.getfield 50, 3) := fet B14 (by decide +kernel) (Or.inr rfl)
theorem f14_13 : zft 14 13 = some (.putfield 50, 3) := fet B14 (by decide +kernel) (Or.inr rfl)
theorem f14_16 : zft 14 16 = some (.aload_n 0, 1) := fet B14 (by decide +kernel) (Or.inr rfl)
theorem f14_17 : zft 14 17 = some (.aload_n 1, 1) := fet B14 (by decide +kernel) (Or.inr rfl)
theorem f14_18 : zft 14 18 = some (.getfield 53, 3) := fet B14 (by decide +kernel) (Or.inr rfl)
theorem f14_21 : zft 14 21 = some (.putfield 53, 3) := fet B14 (by decide +kernel) (Or.inr rfl)
theorem f14_24 : zft 14 24 = some (.aload_n 0, 1) := fet B14 (by decide +kernel) (Or.inr rfl)
theorem f14_25 : zft 14 25 = some (.aload_n 1, 1) := fet B14 (by decide +kernel) (Or.inr rfl)
theorem f14_26 : zft 14 26 = some (.getfield 69, 3) := fet B14 (by decide +kernel) (Or.inr rfl)
theorem f14_29 : zft 14 29 = some (.putfield 69, 3) := fet B14 (by decide +kernel) (Or.inr rfl)
theorem f14_32 : zft 14 32 = some (.aload_n 0, 1) := fet B14 (by decide +kernel) (Or.inr rfl)
theorem f14_33 : zft 14 33 = some (.aload_n 1, 1) := fet B14 (by decide +kernel) (Or.inr rfl)
theorem f14_34 : zft 14 34 = some (.getfield 72, 3) := fet B14 (by decide +kernel) (Or.inr rfl)
theorem f14_37 : zft 14 37 = some (.putfield 72, 3) := fet B14 (by decide +kernel) (Or.inr rfl)
theorem f14_40 : zft 14 40 = some (.aload_n 0, 1) := fet B14 (by decide +kernel) (Or.inr rfl)
theorem f14_41 : zft 14 41 = some (.aload_n 1, 1) := fet B14 (by decide +kernel) (Or.inr rfl)
theorem f14_42 : zft 14 42 = some (.getfield 39, 3) := fet B14 (by decide +kernel) (Or.inr rfl)
theorem f14_45 : zft 14 45 = some (.putfield 39, 3) := fet B14 (by decide +kernel) (Or.inr rfl)
theorem f14_48 : zft 14 48 = some (.aload_n 1, 1) := fet B14 (by decide +kernel) (Or.inr rfl)
theorem f14_49 : zft 14 49 = some (.getfield 9, 3) := fet B14 (by decide +kernel) (Or.inr rfl)
theorem f14_52 : zft 14 52 = some (.aload_n 0, 1) := fet B14 (by decide +kernel) (Or.inr rfl)
theorem f14_53 : zft 14 53 = some (.getfield 9, 3) := fet B14 (by decide +kernel) (Or.inr rfl)
theorem f14_56 : zft 14 56 = some (.invokestatic 75, 3) := fet B14 (by decide +kernel) (Or.inr rfl)
theorem f14_59 : zft 14 59 = some (.aload_n 1, 1) := fet B14 (by decide +kernel) (Or.inr rfl)
theorem f14_60 : zft 14 60 = some (.getfield 15, 3) := fet B14 (by decide +kernel) (Or.inr rfl)
theorem f14_63 : zft 14 63 = some (.aload_n 0, 1) := fet B14 (by decide +kernel) (Or.inr rfl)
theorem f14_64 : zft 14 64 = some (.getfield 15, 3) := fet B14 (by decide +kernel) (Or.inr rfl)
theorem f14_67 : zft 14 67 = some (.invokestatic 75, 3) := fet B14 (by decide +kernel) (Or.inr rfl)
theorem f14_70 : zft 14 70 = some (.aload_n 1, 1) := fet B14 (by decide +kernel) (Or.inr rfl)
theorem f14_71 : zft 14 71 = some (.getfield 18, 3) := fet B14 (by decide +kernel) (Or.inr rfl)
theorem f14_74 : zft 14 74 = some (.aload_n 0, 1) := fet B14 (by decide +kernel) (Or.inr rfl)
theorem f14_75 : zft 14 75 = some (.getfield 18, 3) := fet B14 (by decide +kernel) (Or.inr rfl)
theorem f14_78 : zft 14 78 = some (.invokestatic 75, 3) := fet B14 (by decide +kernel) (Or.inr rfl)
theorem f14_81 : zft 14 81 = some (.aload_n 1, 1) := fet B14 (by decide +kernel) (Or.inr rfl)
theorem f14_82 : zft 14 82 = some (.getfield 21, 3) := fet B14 (by decide +kernel) (Or.inr rfl)
theorem f14_85 : zft 14 85 = some (.aload_n 0, 1) := fet B14 (by decide +kernel) (Or.inr rfl)
theorem f14_86 : zft 14 86 = some (.getfield 21, 3) := fet B14 (by decide +kernel) (Or.inr rfl)
theorem f14_89 : zft 14 89 = some (.invokestatic 75, 3) := fet B14 (by decide +kernel) (Or.inr rfl)
theorem f14_92 : zft 14 92 = some (.aload_n 1, 1) := fet B14 (by decide +kernel) (Or.inr rfl)
theorem f14_93 : zft 14 93 = some (.getfield 24, 3) := fet B14 (by decide +kernel) (Or.inr rfl)
theorem f14_96 : zft 14 96 = some (.aload_n 0, 1) := fet B14 (by decide +kernel) (Or.inr rfl)
theorem f14_97 : zft 14 97 = some (.getfield 24, 3) := fet B14 (by decide +kernel) (Or.inr rfl)
theorem f14_100 : zft 14 100 = some (.invokestatic 75, 3) := fet B14 (by decide +kernel) (Or.inr rfl)
theorem f14_103 : zft 14 103 = some (.aload_n 1, 1) := fet B14 (by decide +kernel) (Or.inr rfl)
theorem f14_104 : zft 14 104 = some (.getfield 27, 3) := fet B14 (by decide +kernel) (Or.inr rfl)
theorem f14_107 : zft 14 107 = some (.aload_n 0, 1) := fet B14 (by decide +kernel) (Or.inr rfl)
theorem f14_108 : zft 14 108 = some (.getfield 27, 3) := fet B14 (by decide +kernel) (Or.inr rfl)
theorem f14_111 : zft 14 111 = some (.invokestatic 75, 3) := fet B14 (by decide +kernel) (Or.inr rfl)
theorem f14_114 : zft 14 114 = some (.aload_n 1, 1) := fet B14 (by decide +kernel) (Or.inr rfl)
theorem f14_115 : zft 14 115 = some (.getfield 30, 3) := fet B14 (by decide +kernel) (Or.inr rfl)
theorem f14_118 : zft 14 118 = some (.aload_n 0, 1) := fet B14 (by decide +kernel) (Or.inr rfl)
theorem f14_119 : zft 14 119 = some (.getfield 30, 3) := fet B14 (by decide +kernel) (Or.inr rfl)
theorem f14_122 : zft 14 122 = some (.invokestatic 75, 3) := fet B14 (by decide +kernel) (Or.inr rfl)
theorem f14_125 : zft 14 125 = some (.aload_n 1, 1) := fet B14 (by decide +kernel) (Or.inr rfl)
theorem f14_126 : zft 14 126 = some (.getfield 33, 3) := fet B14 (by decide +kernel) (Or.inr rfl)
theorem f14_129 : zft 14 129 = some (.aload_n 0, 1) := fet B14 (by decide +kernel) (Or.inr rfl)
theorem f14_130 : zft 14 130 = some (.getfield 33, 3) := fet B14 (by decide +kernel) (Or.inr rfl)
theorem f14_133 : zft 14 133 = some (.invokestatic 75, 3) := fet B14 (by decide +kernel) (Or.inr rfl)
theorem f14_136 : zft 14 136 = some (.aload_n 1, 1) := fet B14 (by decide +kernel) (Or.inr rfl)
theorem f14_137 : zft 14 137 = some (.getfield 36, 3) := fet B14 (by decide +kernel) (Or.inr rfl)
theorem f14_140 : zft 14 140 = some (.aload_n 0, 1) := fet B14 (by decide +kernel) (Or.inr rfl)
theorem f14_141 : zft 14 141 = some (.getfield 36, 3) := fet B14 (by decide +kernel) (Or.inr rfl)
theorem f14_144 : zft 14 144 = some (.invokestatic 75, 3) := fet B14 (by decide +kernel) (Or.inr rfl)
theorem f14_147 : zft 14 147 = some (.return_, 1) := fet B14 (by decide +kernel) (Or.inr rfl)
theorem x14_0 : Rn S 14 0 [.ref q, v1] st I J Q = Rn S 14 1 [.ref q, v1] (.ref q :: st) I J Q := rL f14_0 rfl rfl
theorem x14_1 : Rn S 14 1 [v0, .ref q] st I J Q = Rn S 14 2 [v0, .ref q] (.ref q :: st) I J Q := rL f14_1 rfl rfl
theorem x14_2_8 : Rn (zG xl) 14 2 [v0, v1] (.ref 8 :: st) I J Q = Rn (zG xl) 14 5 [v0, v1] (.int (I 8 0) :: st) I J Q := (rGf f14_2 rfl).trans (tr_and rfl)
theorem x14_2_28 : Rn (zG xl) 14 2 [v0, v1] (.ref 28 :: st) I J Q = Rn (zG xl) 14 5 [v0, v1] (.int (I 28 0) :: st) I J Q := (rGf f14_2 rfl).trans (tr_and rfl)
theorem x14_5_8 : Rn (zG xl) 14 5 [v0, v1] (.int a :: .ref 8 :: st) I J Q = Rn (zG xl) 14 8 [v0, v1] st (zr I 8 (upd (I 8) 0 a)) J Q := (rPf f14_5 rfl).trans (tr_pf rfl rfl rfl)
theorem x14_5_28 : Rn (zG xl) 14 5 [v0, v1] (.int a :: .ref 28 :: st) I J Q = Rn (zG xl) 14 8 [v0, v1] st (zr I 28 (upd (I 28) 0 a)) J Q := (rPf f14_5 rfl).trans (tr_pf rfl rfl rfl)
theorem x14_8 : Rn S 14 8 [.ref q, v1] st I J Q = Rn S 14 9 [.ref q, v1] (.ref q :: st) I J Q := rL f14_8 rfl rfl
theorem x14_9 : Rn S 14 9 [v0, .ref q] st I J Q = Rn S 14 10 [v0, .ref q] (.ref q :: st) I J Q := rL f14_9 rfl rfl
theorem x14_10_8 : Rn (zG xl) 14 10 [v0, v1] (.ref 8 :: st) I J Q = Rn (zG xl) 14 13 [v0, v1] (.int (I 8 3) :: st) I J Q := (rGf f14_10 rfl).trans (tr_and rfl)
theorem x14_10_28 : Rn (zG xl) 14 10 [v0, v1] (.ref 28 :: st) I J Q = Rn (zG xl) 14 13 [v0, v1] (.int (I 28 3) :: st) I J Q := (rGf f14_10 rfl).trans (tr_and rfl)
theorem x14_13_8 : Rn (zG xl) 14 13 [v0, v1] (.int a :: .ref 8 :: st) I J Q = Rn (zG xl) 14 16 [v0, v1] st (zr I 8 (upd (I 8) 3 a)) J Q := (rPf f14_13 rfl).trans (tr_pf rfl rfl rfl)
theorem x14_13_28 : Rn (zG xl) 14 13 [v0, v1] (.int a :: .ref 28 :: st) I J Q = Rn (zG xl) 14 16 [v0, v1] st (zr I 28 (upd (I 28) 3 a)) J Q := (rPf f14_13 rfl).trans (tr_pf rfl rfl rfl)
theorem x14_16 : Rn S 14 16 [.ref q, v1] st I J Q = Rn S 14 17 [.ref q, v1] (.ref q :: st) I J Q := rL f14_16 rfl rfl
theorem x14_17 : Rn S 14 17 [v0, .ref q] st I J Q = Rn S 14 18 [v0, .ref q] (.ref q :: st) I J Q := rL f14_17 rfl rfl
theorem x14_18_8 : Rn (zG xl) 14 18 [v0, v1] (.ref 8 :: st) I J Q = Rn (zG xl) 14 21 [v0, v1] (.int (I 8 6) :: st) I J Q := (rGf f14_18 rfl).trans (tr_and rfl)
theorem x14_18_28 : Rn (zG xl) 14 18 [v0, v1] (.ref 28 :: st) I J Q = Rn (zG xl) 14 21 [v0, v1] (.int (I 28 6) :: st) I J Q := (rGf f14_18 rfl).trans (tr_and rfl)
theorem x14_21_8 : Rn (zG xl) 14 21 [v0, v1] (.int a :: .ref 8 :: st) I J Q = Rn (zG xl) 14 24 [v0, v1] st (zr I 8 (upd (I 8) 6 a)) J Q := (rPf f14_21 rfl).trans (tr_pf rfl rfl rfl)
theorem x14_21_28 : Rn (zG xl) 14 21 [v0, v1] (.int a :: .ref 28 :: st) I J Q = Rn (zG xl) 14 24 [v0, v1] st (zr I 28 (upd (I 28) 6 a)) J Q := (rPf f14_21 rfl).trans (tr_pf rfl rfl rfl)
theorem x14_24 : Rn S 14 24 [.ref q, v1] st I J Q = Rn S 14 25 [.ref q, v1] (.ref q :: st) I J Q := rL f14_24 rfl rfl
theorem x14_25 : Rn S 14 25 [v0, .ref q] st I J Q = Rn S 14 26 [v0, .ref q] (.ref q :: st) I J Q := rL f14_25 rfl rfl
theorem x14_26_8 : Rn (zG xl) 14 26 [v0, v1] (.ref 8 :: st) I J Q = Rn (zG xl) 14 29 [v0, v1] (.int (I 8 9) :: st) I J Q := (rGf f14_26 rfl).trans (tr_and rfl)
theorem x14_26_28 : Rn (zG xl) 14 26 [v0, v1] (.ref 28 :: st) I J Q = Rn (zG xl) 14 29 [v0, v1] (.int (I 28 9) :: st) I J Q := (rGf f14_26 rfl).trans (tr_and rfl)
theorem x14_29_8 : Rn (zG xl) 14 29 [v0, v1] (.int a :: .ref 8 :: st) I J Q = Rn (zG xl) 14 32 [v0, v1] st (zr I 8 (upd (I 8) 9 a)) J Q := (rPf f14_29 rfl).trans (tr_pf rfl rfl rfl)
theorem x14_29_28 : Rn (zG xl) 14 29 [v0, v1] (.int a :: .ref 28 :: st) I J Q = Rn (zG xl) 14 32 [v0, v1] st (zr I 28 (upd (I 28) 9 a)) J Q := (rPf f14_29 rfl).trans (tr_pf rfl rfl rfl)
theorem x14_32 : Rn S 14 32 [.ref q, v1] st I J Q = Rn S 14 33 [.ref q, v1] (.ref q :: st) I J Q := rL f14_32 rfl rfl
theorem x14_33 : Rn S 14 33 [v0, .ref q] st I J Q = Rn S 14 34 [v0, .ref q] (.ref q :: st) I J Q := rL f14_33 rfl rfl
theorem x14_34_8 : Rn (zG xl) 14 34 [v0, v1] (.ref 8 :: st) I J Q = Rn (zG xl) 14 37 [v0, v1] (.int (I 8 13) :: st) I J Q := (rGf f14_34 rfl).trans (tr_and rfl)
theorem x14_34_28 : Rn (zG xl) 14 34 [v0, v1] (.ref 28 :: st) I J Q = Rn (zG xl) 14 37 [v0, v1] (.int (I 28 13) :: st) I J Q := (rGf f14_34 rfl).trans (tr_and rfl)
theorem x14_37_8 : Rn (zG xl) 14 37 [v0, v1] (.int a :: .ref 8 :: st) I J Q = Rn (zG xl) 14 40 [v0, v1] st (zr I 8 (upd (I 8) 13 a)) J Q := (rPf f14_37 rfl).trans (tr_pf rfl rfl rfl)
theorem x14_37_28 : Rn (zG xl) 14 37 [v0, v1] (.int a :: .ref 28 :: st) I J Q = Rn (zG xl) 14 40 [v0, v1] st (zr I 28 (upd (I 28) 13 a)) J Q := (rPf f14_37 rfl).trans (tr_pf rfl rfl rfl)
theorem x14_40 : Rn S 14 40 [.ref q, v1] st I J Q = Rn S 14 41 [.ref q, v1] (.ref q :: st) I J Q := rL f14_40 rfl rfl
theorem x14_41 : Rn S 14 41 [v0, .ref q] st I J Q = Rn S 14 42 [v0, .ref q] (.ref q :: st) I J Q := rL f14_41 rfl rfl
theorem x14_42_8 : Rn (zG xl) 14 42 [v0, v1] (.ref 8 :: st) I J Q = Rn (zG xl) 14 45 [v0, v1] (.int (I 8 14) :: st) I J Q := (rGf f14_42 rfl).trans (tr_and rfl)
theorem x14_42_28 : Rn (zG xl) 14 42 [v0, v1] (.ref 28 :: st) I J Q = Rn (zG xl) 14 45 [v0, v1] (.int (I 28 14) :: st) I J Q := (rGf f14_42 rfl).trans (tr_and rfl)
theorem x14_45_8 : Rn (zG xl) 14 45 [v0, v1] (.int a :: .ref 8 :: st) I J Q = Rn (zG xl) 14 48 [v0, v1] st (zr I 8 (upd (I 8) 14 a)) J Q := (rPf f14_45 rfl).trans (tr_pf rfl rfl rfl)
theorem x14_45_28 : Rn (zG xl) 14 45 [v0, v1] (.int a :: .ref 28 :: st) I J Q = Rn (zG xl) 14 48 [v0, v1] st (zr I 28 (upd (I 28) 14 a)) J Q := (rPf f14_45 rfl).trans (tr_pf rfl rfl rfl)
theorem x14_48 : Rn S 14 48 [v0, .ref q] st I J Q = Rn S 14 49 [v0, .ref q] (.ref q :: st) I J Q := rL f14_48 rfl rfl
theorem x14_49_8 : Rn (zG xl) 14 49 [v0, v1] (.ref 8 :: st) I J Q = Rn (zG xl) 14 52 [v0, v1] (.ref 9 :: st) I J Q := (rGf f14_49 rfl).trans (tr_and rfl)
theorem x14_49_28 : Rn (zG xl) 14 49 [v0, v1] (.ref 28 :: st) I J Q = Rn (zG xl) 14 52 [v0, v1] (.ref 29 :: st) I J Q := (rGf f14_49 rfl).trans (tr_and rfl)
theorem x14_52 : Rn S 14 52 [.ref q, v1] st I J Q = Rn S 14 53 [.ref q, v1] (.ref q :: st) I J Q := rL f14_52 rfl rfl
theorem x14_53_8 : Rn (zG xl) 14 53 [v0, v1] (.ref 8 :: st) I J Q = Rn (zG xl) 14 56 [v0, v1] (.ref 9 :: st) I J Q := (rGf f14_53 rfl).trans (tr_and rfl)
theorem x14_53_28 : Rn (zG xl) 14 53 [v0, v1] (.ref 28 :: st) I J Q = Rn (zG xl) 14 56 [v0, v1] (.ref 29 :: st) I J Q := (rGf f14_53 rfl).trans (tr_and rfl)
theorem x14_56 : Rn S 14 56 [v0, v1] (.ref q1 :: .ref q0 :: st) I J Q = (zcs st ≤ 8 ∧ Rn S 15 0 [.ref q0, .ref q1] [] I J (fun v I' J' => Rn S 14 59 [v0, v1] (v.toList ++ st) I' J' Q)) := rCS (As := [.ref q0, .ref q1]) f14_56 rfl rfl rfl rfl (Nat.le_of_ble_eq_true rfl)
theorem x14_59 : Rn S 14 59 [v0, .ref q] st I J Q = Rn S 14 60 [v0, .ref q] (.ref q :: st) I J Q := rL f14_59 rfl rfl
theorem x14_60_8 : Rn (zG xl) 14 60 [v0, v1] (.ref 8 :: st) I J Q = Rn (zG xl) 14 63 [v0, v1] (.ref 10 :: st) I J Q := (rGf f14_60 rfl).trans (tr_and rfl)
theorem x14_60_28 : Rn (zG xl) 14 60 [v0, v1] (.ref 28 :: st) I J Q = Rn (zG xl) 14 63 [v0, v1] (.ref 30 :: st) I J Q := (rGf f14_60 rfl).trans (tr_and rfl)
theorem x14_63 : Rn S 14 63 [.ref q, v1] st I J Q = Rn S 14 64 [.ref q, v1] (.ref q :: st) I J Q := rL f14_63 rfl rfl
theorem x14_64_8 : Rn (zG xl) 14 64 [v0, v1] (.ref 8 :: st) I J Q = Rn (zG xl) 14 67 [v0, v1] (.ref 10 :: st) I J Q := (rGf f14_64 rfl).trans (tr_and rfl)
theorem x14_64_28 : Rn (zG xl) 14 64 [v0, v1] (.ref 28 :: st) I J Q = Rn (zG xl) 14 67 [v0, v1] (.ref 30 :: st) I J Q := (rGf f14_64 rfl).trans (tr_and rfl)
theorem x14_67 : Rn S 14 67 [v0, v1] (.ref q1 :: .ref q0 :: st) I J Q = (zcs st ≤ 8 ∧ Rn S 15 0 [.ref q0, .ref q1] [] I J (fun v I' J' => Rn S 14 70 [v0, v1] (v.toList ++ st) I' J' Q)) := rCS (As := [.ref q0, .ref q1]) f14_67 rfl rfl rfl rfl (Nat.le_of_ble_eq_true rfl)
theorem x14_70 : Rn S 14 70 [v0, .ref q] st I J Q = Rn S 14 71 [v0, .ref q] (.ref q :: st) I J Q := rL f14_70 rfl rfl
theorem x14_71_8 : Rn (zG xl) 14 71 [v0, v1] (.ref 8 :: st) I J Q = Rn (zG xl) 14 74 [v0, v1] (.ref 11 :: st) I J Q := (rGf f14_71 rfl).trans (tr_and rfl)
theorem x14_71_28 : Rn (zG xl) 14 71 [v0, v1] (.ref 28 :: st) I J Q = Rn (zG xl) 14 74 [v0, v1] (.ref 31 :: st) I J Q := (rGf f14_71 rfl).trans (tr_and rfl)
theorem x14_74 : Rn S 14 74 [.ref q, v1] st I J Q = Rn S 14 75 [.ref q, v1] (.ref q :: st) I J Q := rL f14_74 rfl rfl
theorem x14_75_8 : Rn (zG xl) 14 75 [v0, v1] (.ref 8 :: st) I J Q = Rn (zG xl) 14 78 [v0, v1] (.ref 11 :: st) I J Q := (rGf f14_75 rfl).trans (tr_and rfl)
theorem x14_75_28 : Rn (zG xl) 14 75 [v0, v1] (.ref 28 :: st) I J Q = Rn (zG xl) 14 78 [v0, v1] (.ref 31 :: st) I J Q := (rGf f14_75 rfl).trans (tr_and rfl)
theorem x14_78 : Rn S 14 78 [v0, v1] (.ref q1 :: .ref q0 :: st) I J Q = (zcs st ≤ 8 ∧ Rn S 15 0 [.ref q0, .ref q1] [] I J (fun v I' J' => Rn S 14 81 [v0, v1] (v.toList ++ st) I' J' Q)) := rCS (As := [.ref q0, .ref q1]) f14_78 rfl rfl rfl rfl (Nat.le_of_ble_eq_true rfl)
theorem x14_81 : Rn S 14 81 [v0, .ref q] st I J Q = Rn S 14 82 [v0, .ref q] (.ref q :: st) I J Q := rL f14_81 rfl rfl
theorem x14_82_8 : Rn (zG xl) 14 82 [v0, v1] (.ref 8 :: st) I J Q = Rn (zG xl) 14 85 [v0, v1] (.ref 12 :: st) I J Q := (rGf f14_82 rfl).trans (tr_and rfl)
theorem x14_82_28 : Rn (zG xl) 14 82 [v0, v1] (.ref 28 :: st) I J Q = Rn (zG xl) 14 85 [v0, v1] (.ref 32 :: st) I J Q := (rGf f14_82 rfl).trans (tr_and rfl)
theorem x14_85 : Rn S 14 85 [.ref q, v1] st I J Q = Rn S 14 86 [.ref q, v1] (.ref q :: st) I J Q := rL f14_85 rfl rfl
theorem x14_86_8 : Rn (zG xl) 14 86 [v0, v1] (.ref 8 :: st) I J Q = Rn (zG xl) 14 89 [v0, v1] (.ref 12 :: st) I J Q := (rGf f14_86 rfl).trans (tr_and rfl)
theorem x14_86_28 : Rn (zG xl) 14 86 [v0, v1] (.ref 28 :: st) I J Q = Rn (zG xl) 14 89 [v0, v1] (.ref 32 :: st) I J Q := (rGf f14_86 rfl).trans (tr_and rfl)
theorem x14_89 : Rn S 14 89 [v0, v1] (.ref q1 :: .ref q0 :: st) I J Q = (zcs st ≤ 8 ∧ Rn S 15 0 [.ref q0, .ref q1] [] I J (fun v I' J' => Rn S 14 92 [v0, v1] (v.toList ++ st) I' J' Q)) := rCS (As := [.ref q0, .ref q1]) f14_89 rfl rfl rfl rfl (Nat.le_of_ble_eq_true rfl)
theorem x14_92 : Rn S 14 92 [v0, .ref q] st I J Q = Rn S 14 93 [v0, .ref q] (.ref q :: st) I J Q := rL f14_92 rfl rfl
theorem x14_93_8 : Rn (zG xl) 14 93 [v0, v1] (.ref 8 :: st) I J Q = Rn (zG xl) 14 96 [v0, v1] (.ref 13 :: st) I J Q := (rGf f14_93 rfl).trans (tr_and rfl)
theorem x14_93_28 : Rn (zG xl) 14 93 [v0, v1] (.ref 28 :: st) I J Q = Rn (zG xl) 14 96 [v0, v1] (.ref 33 :: st) I J Q := (rGf f14_93 rfl).trans (tr_and rfl)
theorem x14_96 : Rn S 14 96 [.ref q, v1] st I J Q = Rn S 14 97 [.ref q, v1] (.ref q :: st) I J Q := rL f14_96 rfl rfl
theorem x14_97_8 : Rn (zG xl) 14 97 [v0, v1] (.ref 8 :: st) I J Q = Rn (zG xl) 14 100 [v0, v1] (.ref 13 :: st) I J Q := (rGf f14_97 rfl).trans (tr_and rfl)
theorem x14_97_28 : Rn (zG xl) 14 97 [v0, v1] (.ref 28 :: st) I J Q = Rn (zG xl) 14 100 [v0, v1] (.ref 33 :: st) I J Q := (rGf f14_97 rfl).trans (tr_and rfl)
theorem x14_100 : Rn S 14 100 [v0, v1] (.ref q1 :: .ref q0 :: st) I J Q = (zcs st ≤ 8 ∧ Rn S 15 0 [.ref q0, .ref q1] [] I J (fun v I' J' => Rn S 14 103 [v0, v1] (v.toList ++ st) I' J' Q)) := rCS (As := [.ref q0, .ref q1]) f14_100 rfl rfl rfl rfl (Nat.le_of_ble_eq_true rfl)
theorem x14_103 : Rn S 14 103 [v0, .ref q] st I J Q = Rn S 14 104 [v0, .ref q] (.ref q :: st) I J Q := rL f14_103 rfl rfl
theorem x14_104_8 : Rn (zG xl) 14 104 [v0, v1] (.ref 8 :: st) I J Q = Rn (zG xl) 14 107 [v0, v1] (.ref 14 :: st) I J Q := (rGf f14_104 rfl).trans (tr_and rfl)
theorem x14_104_28 : Rn (zG xl) 14 104 [v0, v1] (.ref 28 :: st) I J Q = Rn (zG xl) 14 107 [v0, v1] (.ref 34 :: st) I J Q := (rGf f14_104 rfl).trans (tr_and rfl)
theorem x14_107 : Rn S 14 107 [.ref q, v1] st I J Q = Rn S 14 108 [.ref q, v1] (.ref q :: st) I J Q := rL f14_107 rfl rfl
theorem x14_108_8 : Rn (zG xl) 14 108 [v0, v1] (.ref 8 :: st) I J Q = Rn (zG xl) 14 111 [v0, v1] (.ref 14 :: st) I J Q := (rGf f14_108 rfl).trans (tr_and rfl)
theorem x14_108_28 : Rn (zG xl) 14 108 [v0, v1] (.ref 28 :: st) I J Q = Rn (zG xl) 14 111 [v0, v1] (.ref 34 :: st) I J Q := (rGf f14_108 rfl).trans (tr_and rfl)
theorem x14_111 : Rn S 14 111 [v0, v1] (.ref q1 :: .ref q0 :: st) I J Q = (zcs st ≤ 8 ∧ Rn S 15 0 [.ref q0, .ref q1] [] I J (fun v I' J' => Rn S 14 114 [v0, v1] (v.toList ++ st) I' J' Q)) := rCS (As := [.ref q0, .ref q1]) f14_111 rfl rfl rfl rfl (Nat.le_of_ble_eq_true rfl)
theorem x14_114 : Rn S 14 114 [v0, .ref q] st I J Q = Rn S 14 115 [v0, .ref q] (.ref q :: st) I J Q := rL f14_114 rfl rfl
theorem x14_115_8 : Rn (zG xl) 14 115 [v0, v1] (.ref 8 :: st) I J Q = Rn (zG xl) 14 118 [v0, v1] (.ref 15 :: st) I J Q := (rGf f14_115 rfl).trans (tr_and rfl)
theorem x14_115_28 : Rn (zG xl) 14 115 [v0, v1] (.ref 28 :: st) I J Q = Rn (zG xl) 14 118 [v0, v1] (.ref 35 :: st) I J Q := (rGf f14_115 rfl).trans (tr_and rfl)
theorem x14_118 : Rn S 14 118 [.ref q, v1] st I J Q = Rn S 14 119 [.ref q, v1] (.ref q :: st) I J Q := rL f14_118 rfl rfl
theorem x14_119_8 : Rn (zG xl) 14 119 [v0, v1] (.ref 8 :: st) I J Q = Rn (zG xl) 14 122 [v0, v1] (.ref 15 :: st) I J Q := (rGf f14_119 rfl).trans (tr_and rfl)
theorem x14_119_28 : Rn (zG xl) 14 119 [v0, v1] (.ref 28 :: st) I J Q = Rn (zG xl) 14 122 [v0, v1] (.ref 35 :: st) I J Q := (rGf f14_119 rfl).trans (tr_and rfl)
theorem x14_122 : Rn S 14 122 [v0, v1] (.ref q1 :: .ref q0 :: st) I J Q = (zcs st ≤ 8 ∧ Rn S 15 0 [.ref q0, .ref q1] [] I J (fun v I' J' => Rn S 14 125 [v0, v1] (v.toList ++ st) I' J' Q)) := rCS (As := [.ref q0, .ref q1]) f14_122 rfl rfl rfl rfl (Nat.le_of_ble_eq_true rfl)
theorem x14_125 : Rn S 14 125 [v0, .ref q] st I J Q = Rn S 14 126 [v0, .ref q] (.ref q :: st) I J Q := rL f14_125 rfl rfl
theorem x14_126_8 : Rn (zG xl) 14 126 [v0, v1] (.ref 8 :: st) I J Q = Rn (zG xl) 14 129 [v0, v1] (.ref 16 :: st) I J Q := (rGf f14_126 rfl).trans (tr_and rfl)
theorem x14_126_28 : Rn (zG xl) 14 126 [v0, v1] (.ref 28 :: st) I J Q = Rn (zG xl) 14 129 [v0, v1] (.ref 36 :: st) I J Q := (rGf f14_126 rfl).trans (tr_and rfl)
theorem x14_129 : Rn S 14 129 [.ref q, v1] st I J Q = Rn S 14 130 [.ref q, v1] (.ref q :: st) I J Q := rL f14_129 rfl rfl
theorem x14_130_8 : Rn (zG xl) 14 130 [v0, v1] (.ref 8 :: st) I J Q = Rn (zG xl) 14 133 [v0, v1] (.ref 16 :: st) I J Q := (rGf f14_130 rfl).trans (tr_and rfl)
theorem x14_130_28 : Rn (zG xl) 14 130 [v0, v1] (.ref 28 :: st) I J Q = Rn (zG xl) 14 133 [v0, v1] (.ref 36 :: st) I J Q := (rGf f14_130 rfl).trans (tr_and rfl)
theorem x14_133 : Rn S 14 133 [v0, v1] (.ref q1 :: .ref q0 :: st) I J Q = (zcs st ≤ 8 ∧ Rn S 15 0 [.ref q0, .ref q1] [] I J (fun v I' J' => Rn S 14 136 [v0, v1] (v.toList ++ st) I' J' Q)) := rCS (As := [.ref q0, .ref q1]) f14_133 rfl rfl rfl rfl (Nat.le_of_ble_eq_true rfl)
theorem x14_136 : Rn S 14 136 [v0, .ref q] st I J Q = Rn S 14 137 [v0, .ref q] (.ref q :: st) I J Q := rL f14_136 rfl rfl
theorem x14_137_8 : Rn (zG xl) 14 137 [v0, v1] (.ref 8 :: st) I J Q = Rn (zG xl) 14 140 [v0, v1] (.ref 17 :: st) I J Q := (rGf f14_137 rfl).trans (tr_and rfl)
theorem x14_137_28 : Rn (zG xl) 14 137 [v0, v1] (.ref 28 :: st) I J Q = Rn (zG xl) 14 140 [v0, v1] (.ref 37 :: st) I J Q := (rGf f14_137 rfl).trans (tr_and rfl)
theorem x14_140 : Rn S 14 140 [.ref q, v1] st I J Q = Rn S 14 141 [.ref q, v1] (.ref q :: st) I J Q := rL f14_140 rfl rfl
theorem x14_141_8 : Rn (zG xl) 14 141 [v0, v1] (.ref 8 :: st) I J Q = Rn (zG xl) 14 144 [v0, v1] (.ref 17 :: st) I J Q := (rGf f14_141 rfl).trans (tr_and rfl)
theorem x14_141_28 : Rn (zG xl) 14 141 [v0, v1] (.ref 28 :: st) I J Q = Rn (zG xl) 14 144 [v0, v1] (.ref 37 :: st) I J Q := (rGf f14_141 rfl).trans (tr_and rfl)
theorem x14_144 : Rn S 14 144 [v0, v1] (.ref q1 :: .ref q0 :: st) I J Q = (zcs st ≤ 8 ∧ Rn S 15 0 [.ref q0, .ref q1] [] I J (fun v I' J' => Rn S 14 147 [v0, v1] (v.toList ++ st) I' J' Q)) := rCS (As := [.ref q0, .ref q1]) f14_144 rfl rfl rfl rfl (Nat.le_of_ble_eq_true rfl)
theorem x14_147 : Rn S 14 147 [v0, v1] [] I J Q = Q none I J := rR f14_147 rfl rfl rfl rfl rfl
/-! X1.takeRow: 15 -/
theorem B15 : zB 15 = cX1_takeRow := rfl
theorem f15_0 : zft 15 0 = some (.aload_n 0, 1) := fet B15 (by decide +kernel) (Or.inr rfl)
theorem f15_1 : zft 15 1 = some (.iconst 0, 1) := fet B15 (by decide +kernel) (Or.inr rfl)
theorem f15_2 : zft 15 2 = some (.aload_n 1, 1) := fet B15 (by decide +kernel) (Or.inr rfl)
theorem f15_3 : zft 15 3 = some (.iconst 0, 1) := fet B15 (by decide +kernel) (Or.inr rfl)
theorem f15_4 : zft 15 4 = some (.aload_n 0, 1) := fet B15 (by decide +kernel) (Or.inr rfl)
theorem f15_5 : zft 15 5 = some (.arraylength, 1) := fet B15 (by decide +kernel) (Or.inr rfl)
theorem f15_6 : zft 15 6 = some (.aload_n 1, 1) := fet B15 (by decide +kernel) (Or.inr rfl)
theorem f15_7 : zft 15 7 = some (.arraylength, 1) := fet B15 (by decide +kernel) (Or.inr rfl)
theorem f15_8 : zft 15 8 = some (.invokestatic 79, 3) := fet B15 (by decide +kernel) (Or.inr rfl)
theorem f15_11 : zft 15 11 = some (.invokestatic 85, 3) := fet B15 (by decide +kernel) (Or.inr rfl)
theorem f15_14 : zft 15 14 = some (.return_, 1) := fet B15 (by decide +kernel) (Or.inr rfl)
theorem x15_0 : Rn S 15 0 [.ref q, v1] st I J Q = Rn S 15 1 [.ref q, v1] (.ref q :: st) I J Q := rL f15_0 rfl rfl
theorem x15_1 : Rn S 15 1 [v0, v1] st I J Q = Rn S 15 2 [v0, v1] (.int 0 :: st) I J Q := rS f15_1 rfl
theorem x15_2 : Rn S 15 2 [v0, .ref q] st I J Q = Rn S 15 3 [v0, .ref q] (.ref q :: st) I J Q := rL f15_2 rfl rfl
theorem x15_3 : Rn S 15 3 [v0, v1] st I J Q = Rn S 15 4 [v0, v1] (.int 0 :: st) I J Q := rS f15_3 rfl
theorem x15_4 : Rn S 15 4 [.ref q, v1] st I J Q = Rn S 15 5 [.ref q, v1] (.ref q :: st) I J Q := rL f15_4 rfl rfl
theorem x15_5 : Rn S 15 5 [v0, v1] (.ref q :: st) I J Q = (¬ zkd S q = 99 ∧ Rn S 15 6 [v0, v1] (.int (Int32.ofNat (zln S q)) :: st) I J Q) := rAln f15_5
theorem x15_6 : Rn S 15 6 [v0, .ref q] st I J Q = Rn S 15 7 [v0, .ref q] (.ref q :: st) I J Q := rL f15_6 rfl rfl
theorem x15_7 : Rn S 15 7 [v0, v1] (.ref q :: st) I J Q = (¬ zkd S q = 99 ∧ Rn S 15 8 [v0, v1] (.int (Int32.ofNat (zln S q)) :: st) I J Q) := rAln f15_7
theorem x15_8 : Rn S 15 8 [v0, v1] (.int b :: .int a :: st) I J Q = (zcs st ≤ 8 ∧ Rn S 15 11 [v0, v1] (.int (if a ≤ b then a else b) :: st) I J Q) := rMn f15_8 rfl rfl ⟨Nat.le_of_ble_eq_true rfl, Nat.le_of_ble_eq_true rfl⟩
theorem x15_11 : Rn S 15 11 [v0, v1] (.int c :: .int b :: .ref q :: .int a :: .ref r :: st) I J Q = ((zcs st ≤ 8 ∧ zcp S r q a b c) ∧ Rn S 15 14 [v0, v1] st (zr I q (va_cpy (I r) (I q) a.toNatClampNeg b.toNatClampNeg c.toNatClampNeg)) J Q) := rCp f15_11 rfl rfl ⟨Nat.le_of_ble_eq_true rfl, Nat.le_of_ble_eq_true rfl⟩
theorem x15_14 : Rn S 15 14 [v0, v1] [] I J Q = Q none I J := rR f15_14 rfl rfl rfl rfl rfl
/-! X1.addEvent: 16 -/
theorem B16 : zB 16 = cX1_addEvent := rfl
theorem f16_0 : zft 16 0 = some (.aload_n 0, 1) := fet B16 (by decide +kernel) (Or.inr rfl)
theorem f16_1 : zft 16 1 = some (.getfield 30, 3) := fet B16 (by decide +kernel) (Or.inr rfl)
theorem f16_4 : zft 16 4 = some (.aload_n 0, 1) := fet B16 (by decide +kernel) (Or.inr rfl)
theorem f16_5 : zft 16 5 = some (.getfield 69, 3) := fet B16 (by decide +kernel) (Or.inr rfl)
theorem f16_8 : zft 16 8 = some (.iload_n 1, 1) := fet B16 (by decide +kernel) (Or.inr rfl)
theorem f16_9 : zft 16 9 = some (.iastore, 1) := fet B16 (by decide +kernel) (Or.inr rfl)
theorem f16_10 : zft 16 10 = some (.aload_n 0, 1) := fet B16 (by decide +kernel) (Or.inr rfl)
theorem f16_11 : zft 16 11 = some (.getfield 33, 3) := fet B16 (by decide +kernel) (Or.inr rfl)
theorem f16_14 : zft 16 14 = some (.aload_n 0, 1) := fet B16 (by decide +kernel) (Or.inr rfl)
theorem f16_15 : zft 16 15 = some (.getfield 69, 3) := fet B16 (by decide +kernel) (Or.inr rfl)
theorem f16_18 : zft 16 18 = some (.iload_n 2, 1) := fet B16 (by decide +kernel) (Or.inr rfl)
theorem f16_19 : zft 16 19 = some (.iastore, 1) := fet B16 (by decide +kernel) (Or.inr rfl)
theorem f16_20 : zft 16 20 = some (.aload_n 0, 1) := fet B16 (by decide +kernel) (Or.inr rfl)
theorem f16_21 : zft 16 21 = some (.getfield 36, 3) := fet B16 (by decide +kernel) (Or.inr rfl)
theorem f16_24 : zft 16 24 = some (.aload_n 0, 1) := fet B16 (by decide +kernel) (Or.inr rfl)
theorem f16_25 : zft 16 25 = some (.getfield 69, 3) := fet B16 (by decide +kernel) (Or.inr rfl)
theorem f16_28 : zft 16 28 = some (.iload_n 3, 1) := fet B16 (by decide +kernel) (Or.inr rfl)
theorem f16_29 : zft 16 29 = some (.iastore, 1) := fet B16 (by decide +kernel) (Or.inr rfl)
theorem f16_30 : zft 16 30 = some (.aload_n 0, 1) := fet B16 (by decide +kernel) (Or.inr rfl)
theorem f16_31 : zft 16 31 = some (.dup, 1) := fet B16 (by decide +kernel) (Or.inr rfl)
theorem f16_32 : zft 16 32 = some (.getfield 69, 3) := fet B16 (by decide +kernel) (Or.inr rfl)
theorem f16_35 : zft 16 35 = some (.iconst 1, 1) := fet B16 (by decide +kernel) (Or.inr rfl)
theorem f16_36 : zft 16 36 = some (.iadd, 1) := fet B16 (by decide +kernel) (Or.inr rfl)
theorem f16_37 : zft 16 37 = some (.putfield 69, 3) := fet B16 (by decide +kernel) (Or.inr rfl)
theorem f16_40 : zft 16 40 = some (.return_, 1) := fet B16 (by decide +kernel) (Or.inr rfl)
theorem x16_0 : Rn S 16 0 [.ref q, v1, v2, v3] st I J Q = Rn S 16 1 [.ref q, v1, v2, v3] (.ref q :: st) I J Q := rL f16_0 rfl rfl
theorem x16_1_8 : Rn (zG xl) 16 1 [v0, v1, v2, v3] (.ref 8 :: st) I J Q = Rn (zG xl) 16 4 [v0, v1, v2, v3] (.ref 15 :: st) I J Q := (rGf f16_1 rfl).trans (tr_and rfl)
theorem x16_1_28 : Rn (zG xl) 16 1 [v0, v1, v2, v3] (.ref 28 :: st) I J Q = Rn (zG xl) 16 4 [v0, v1, v2, v3] (.ref 35 :: st) I J Q := (rGf f16_1 rfl).trans (tr_and rfl)
theorem x16_4 : Rn S 16 4 [.ref q, v1, v2, v3] st I J Q = Rn S 16 5 [.ref q, v1, v2, v3] (.ref q :: st) I J Q := rL f16_4 rfl rfl
theorem x16_5_8 : Rn (zG xl) 16 5 [v0, v1, v2, v3] (.ref 8 :: st) I J Q = Rn (zG xl) 16 8 [v0, v1, v2, v3] (.int (I 8 9) :: st) I J Q := (rGf f16_5 rfl).trans (tr_and rfl)
theorem x16_5_28 : Rn (zG xl) 16 5 [v0, v1, v2, v3] (.ref 28 :: st) I J Q = Rn (zG xl) 16 8 [v0, v1, v2, v3] (.int (I 28 9) :: st) I J Q := (rGf f16_5 rfl).trans (tr_and rfl)
theorem x16_8 : Rn S 16 8 [v0, .int a, v2, v3] st I J Q = Rn S 16 9 [v0, .int a, v2, v3] (.int a :: st) I J Q := rL f16_8 rfl rfl
theorem x16_9 : Rn S 16 9 [v0, v1, v2, v3] (.int b :: .int a :: .ref q :: st) I J Q = (zas S q a ∧ Rn S 16 10 [v0, v1, v2, v3] st (zr I q (upd (I q) a.toNatClampNeg b)) J Q) := rIas f16_9
theorem x16_10 : Rn S 16 10 [.ref q, v1, v2, v3] st I J Q = Rn S 16 11 [.ref q, v1, v2, v3] (.ref q :: st) I J Q := rL f16_10 rfl rfl
theorem x16_11_8 : Rn (zG xl) 16 11 [v0, v1, v2, v3] (.ref 8 :: st) I J Q = Rn (zG xl) 16 14 [v0, v1, v2, v3] (.ref 16 :: st) I J Q := (rGf f16_11 rfl).trans (tr_and rfl)
theorem x16_11_28 : Rn (zG xl) 16 11 [v0, v1, v2, v3] (.ref 28 :: st) I J Q = Rn (zG xl) 16 14 [v0, v1, v2, v3] (.ref 36 :: st) I J Q := (rGf f16_11 rfl).trans (tr_and rfl)
theorem x16_14 : Rn S 16 14 [.ref q, v1, v2, v3] st I J Q = Rn S 16 15 [.ref q, v1, v2, v3] (.ref q :: st) I J Q := rL f16_14 rfl rfl
theorem x16_15_8 : Rn (zG xl) 16 15 [v0, v1, v2, v3] (.ref 8 :: st) I J Q = Rn (zG xl) 16 18 [v0, v1, v2, v3] (.int (I 8 9) :: st) I J Q := (rGf f16_15 rfl).trans (tr_and rfl)
theorem x16_15_28 : Rn (zG xl) 16 15 [v0, v1, v2, v3] (.ref 28 :: st) I J Q = Rn (zG xl) 16 18 [v0, v1, v2, v3] (.int (I 28 9) :: st) I J Q := (rGf f16_15 rfl).trans (tr_and rfl)
theorem x16_18 : Rn S 16 18 [v0, v1, .int a, v3] st I J Q = Rn S 16 19 [v0, v1, .int a, v3] (.int a :: st) I J Q := rL f16_18 rfl rfl
theorem x16_19 : Rn S 16 19 [v0, v1, v2, v3] (.int b :: .int a :: .ref q :: st) I J Q = (zas S q a ∧ Rn S 16 20 [v0, v1, v2, v3] st (zr I q (upd (I q) a.toNatClampNeg b)) J Q) := rIas f16_19
theorem x16_20 : Rn S 16 20 [.ref q, v1, v2, v3] st I J Q = Rn S 16 21 [.ref q, v1, v2, v3] (.ref q :: st) I J Q := rL f16_20 rfl rfl
theorem x16_21_8 : Rn (zG xl) 16 21 [v0, v1, v2, v3] (.ref 8 :: st) I J Q = Rn (zG xl) 16 24 [v0, v1, v2, v3] (.ref 17 :: st) I J Q := (rGf f16_21 rfl).trans (tr_and rfl)
theorem x16_21_28 : Rn (zG xl) 16 21 [v0, v1, v2, v3] (.ref 28 :: st) I J Q = Rn (zG xl) 16 24 [v0, v1, v2, v3] (.ref 37 :: st) I J Q := (rGf f16_21 rfl).trans (tr_and rfl)
theorem x16_24 : Rn S 16 24 [.ref q, v1, v2, v3] st I J Q = Rn S 16 25 [.ref q, v1, v2, v3] (.ref q :: st) I J Q := rL f16_24 rfl rfl
theorem x16_25_8 : Rn (zG xl) 16 25 [v0, v1, v2, v3] (.ref 8 :: st) I J Q = Rn (zG xl) 16 28 [v0, v1, v2, v3] (.int (I 8 9) :: st) I J Q := (rGf f16_25 rfl).trans (tr_and rfl)
theorem x16_25_28 : Rn (zG xl) 16 25 [v0, v1, v2, v3] (.ref 28 :: st) I J Q = Rn (zG xl) 16 28 [v0, v1, v2, v3] (.int (I 28 9) :: st) I J Q := (rGf f16_25 rfl).trans (tr_and rfl)
theorem x16_28 : Rn S 16 28 [v0, v1, v2, .int a] st I J Q = Rn S 16 29 [v0, v1, v2, .int a] (.int a :: st) I J Q := rL f16_28 rfl rfl
theorem x16_29 : Rn S 16 29 [v0, v1, v2, v3] (.int b :: .int a :: .ref q :: st) I J Q = (zas S q a ∧ Rn S 16 30 [v0, v1, v2, v3] st (zr I q (upd (I q) a.toNatClampNeg b)) J Q) := rIas f16_29
theorem x16_30 : Rn S 16 30 [.ref q, v1, v2, v3] st I J Q = Rn S 16 31 [.ref q, v1, v2, v3] (.ref q :: st) I J Q := rL f16_30 rfl rfl
theorem x16_31i : Rn S 16 31 [v0, v1, v2, v3] (.int a :: st) I J Q = Rn S 16 32 [v0, v1, v2, v3] (.int a :: .int a :: st) I J Q := rS f16_31 rfl
theorem x16_31r : Rn S 16 31 [v0, v1, v2, v3] (.ref q :: st) I J Q = Rn S 16 32 [v0, v1, v2, v3] (.ref q :: .ref q :: st) I J Q := rS f16_31 rfl
theorem x16_32_8 : Rn (zG xl) 16 32 [v0, v1, v2, v3] (.ref 8 :: st) I J Q = Rn (zG xl) 16 35 [v0, v1, v2, v3] (.int (I 8 9) :: st) I J Q := (rGf f16_32 rfl).trans (tr_and rfl)
theorem x16_32_28 : Rn (zG xl) 16 32 [v0, v1, v2, v3] (.ref 28 :: st) I J Q = Rn (zG xl) 16 35 [v0, v1, v2, v3] (.int (I 28 9) :: st) I J Q := (rGf f16_32 rfl).trans (tr_and rfl)
theorem x16_35 : Rn S 16 35 [v0, v1, v2, v3] st I J Q = Rn S 16 36 [v0, v1, v2, v3] (.int 1 :: st) I J Q := rS f16_35 rfl
theorem x16_36 : Rn S 16 36 [v0, v1, v2, v3] (.int b :: .int a :: st) I J Q = Rn S 16 37 [v0, v1, v2, v3] (.int (a + b) :: st) I J Q := rS f16_36 rfl
theorem x16_37_8 : Rn (zG xl) 16 37 [v0, v1, v2, v3] (.int a :: .ref 8 :: st) I J Q = Rn (zG xl) 16 40 [v0, v1, v2, v3] st (zr I 8 (upd (I 8) 9 a)) J Q := (rPf f16_37 rfl).trans (tr_pf rfl rfl rfl)
theorem x16_37_28 : Rn (zG xl) 16 37 [v0, v1, v2, v3] (.int a :: .ref 28 :: st) I J Q = Rn (zG xl) 16 40 [v0, v1, v2, v3] st (zr I 28 (upd (I 28) 9 a)) J Q := (rPf f16_37 rfl).trans (tr_pf rfl rfl rfl)
theorem x16_40 : Rn S 16 40 [v0, v1, v2, v3] [] I J Q = Q none I J := rR f16_40 rfl rfl rfl rfl rfl
/-! X1.exchange: 17 -/
theorem B17 : zB 17 = cX1_exchange := rfl
theorem f17_0 : zft 17 0 = some (.aload_n 0, 1) := fet B17 (by decide +kernel) (Or.inr rfl)
theorem f17_1 : zft 17 1 = some (.getfield 24, 3) := fet B17 (by decide +kernel) (Or.inr rfl)
theorem f17_4 : zft 17 4 = some (.iload_n 1, 1) := fet B17 (by decide +kernel) (Or.inr rfl)
theorem f17_5 : zft 17 5 = some (.iaload, 1) := fet B17 (by decide +kernel) (Or.inr rfl)
theorem f17_6 : zft 17 6 = some (.istore_n 3, 1) := fet B17 (by decide +kernel) (Or.inr rfl)
theorem f17_7 : zft 17 7 = some (.aload_n 0, 1) := fet B17 (by decide +kernel) (Or.inr rfl)
theorem f17_8 : zft 17 8 = some (.getfield 27, 3) := fet B17 (by decide +kernel) (Or.inr rfl)
theorem f17_11 : zft 17 11 = some (.iload_n 1, 1) := fet B17 (by decide +kernel) (Or.inr rfl)
theorem f17_12 : zft 17 12 = some (.iaload, 1) := fet B17 (by decide +kernel) (Or.inr rfl)
theorem f17_13 : zft 17 13 = some (.istore 4, 2) := fet B17 (by decide +kernel) (Or.inr rfl)
theorem f17_15 : zft 17 15 = some (.aload_n 0, 1) := fet B17 (by decide +kernel) (Or.inr rfl)
theorem f17_16 : zft 17 16 = some (.getfield 24, 3) := fet B17 (by decide +kernel) (Or.inr rfl)
theorem f17_19 : zft 17 19 = some (.iload_n 1, 1) := fet B17 (by decide +kernel) (Or.inr rfl)
theorem f17_20 : zft 17 20 = some (.aload_n 0, 1) := fet B17 (by decide +kernel) (Or.inr rfl)
theorem f17_21 : zft 17 21 = some (.getfield 24, 3) := fet B17 (by decide +kernel) (Or.inr rfl)
theorem f17_24 : zft 17 24 = some (.iload_n 2, 1) := fet B17 (by decide +kernel) (Or.inr rfl)
theorem f17_25 : zft 17 25 = some (.iaload, 1) := fet B17 (by decide +kernel) (Or.inr rfl)
theorem f17_26 : zft 17 26 = some (.iastore, 1) := fet B17 (by decide +kernel) (Or.inr rfl)
theorem f17_27 : zft 17 27 = some (.aload_n 0, 1) := fet B17 (by decide +kernel) (Or.inr rfl)
theorem f17_28 : zft 17 28 = some (.getfield 27, 3) := fet B17 (by decide +kernel) (Or.inr rfl)
theorem f17_31 : zft 17 31 = some (.iload_n 1, 1) := fet B17 (by decide +kernel) (Or.inr rfl)
theorem f17_32 : zft 17 32 = some (.aload_n 0, 1) := fet B17 (by decide +kernel) (Or.inr rfl)
theorem f17_33 : zft 17 33 = some (.getfield 27, 3) := fet B17 (by decide +kernel) (Or.inr rfl)
theorem f17_36 : zft 17 36 = some (.iload_n 2, 1) := fet B17 (by decide +kernel) (Or.inr rfl)
theorem f17_37 : zft 17 37 = some (.iaload, 1) := fet B17 (by decide +kernel) (Or.inr rfl)
theorem f17_38 : zft 17 38 = some (.iastore, 1) := fet B17 (by decide +kernel) (Or.inr rfl)
theorem f17_39 : zft 17 39 = some (.aload_n 0, 1) := fet B17 (by decide +kernel) (Or.inr rfl)
theorem f17_40 : zft 17 40 = some (.getfield 24, 3) := fet B17 (by decide +kernel) (Or.inr rfl)
theorem f17_43 : zft 17 43 = some (.iload_n 2, 1) := fet B17 (by decide +kernel) (Or.inr rfl)
theorem f17_44 : zft 17 44 = some (.iload_n 3, 1) := fet B17 (by decide +kernel) (Or.inr rfl)
theorem f17_45 : zft 17 45 = some (.iastore, 1) := fet B17 (by decide +kernel) (Or.inr rfl)
theorem f17_46 : zft 17 46 = some (.aload_n 0, 1) := fet B17 (by decide +kernel) (Or.inr rfl)
theorem f17_47 : zft 17 47 = some (.getfield 27, 3) := fet B17 (by decide +kernel) (Or.inr rfl)
theorem f17_50 : zft 17 50 = some (.iload_n 2, 1) := fet B17 (by decide +kernel) (Or.inr rfl)
theorem f17_51 : zft 17 51 = some (.iload 4, 2) := fet B17 (by decide +kernel) (Or.inr rfl)
theorem f17_53 : zft 17 53 = some (.iastore, 1) := fet B17 (by decide +kernel) (Or.inr rfl)
theorem f17_54 : zft 17 54 = some (.return_, 1) := fet B17 (by decide +kernel) (Or.inr rfl)
theorem x17_0 : Rn S 17 0 [.ref q, v1, v2, v3, v4] st I J Q = Rn S 17 1 [.ref q, v1, v2, v3, v4] (.ref q :: st) I J Q := rL f17_0 rfl rfl
theorem x17_1_8 : Rn (zG xl) 17 1 [v0, v1, v2, v3, v4] (.ref 8 :: st) I J Q = Rn (zG xl) 17 4 [v0, v1, v2, v3, v4] (.ref 13 :: st) I J Q := (rGf f17_1 rfl).trans (tr_and rfl)
theorem x17_1_28 : Rn (zG xl) 17 1 [v0, v1, v2, v3, v4] (.ref 28 :: st) I J Q = Rn (zG xl) 17 4 [v0, v1, v2, v3, v4] (.ref 33 :: st) I J Q := (rGf f17_1 rfl).trans (tr_and rfl)
theorem x17_4 : Rn S 17 4 [v0, .int a, v2, v3, v4] st I J Q = Rn S 17 5 [v0, .int a, v2, v3, v4] (.int a :: st) I J Q := rL f17_4 rfl rfl
theorem x17_5 : Rn S 17 5 [v0, v1, v2, v3, v4] (.int a :: .ref q :: st) I J Q = (zai S q a ∧ Rn S 17 6 [v0, v1, v2, v3, v4] (.int (I q a.toNatClampNeg) :: st) I J Q) := rIal f17_5
theorem x17_6 : Rn S 17 6 [v0, v1, v2, v3, v4] (.int a :: st) I J Q = Rn S 17 7 [v0, v1, zkl v2, .int a, v4] st I J Q := rL f17_6 rfl rfl
theorem x17_7 : Rn S 17 7 [.ref q, v1, v2, v3, v4] st I J Q = Rn S 17 8 [.ref q, v1, v2, v3, v4] (.ref q :: st) I J Q := rL f17_7 rfl rfl
theorem x17_8_8 : Rn (zG xl) 17 8 [v0, v1, v2, v3, v4] (.ref 8 :: st) I J Q = Rn (zG xl) 17 11 [v0, v1, v2, v3, v4] (.ref 14 :: st) I J Q := (rGf f17_8 rfl).trans (tr_and rfl)
theorem x17_8_28 : Rn (zG xl) 17 8 [v0, v1, v2, v3, v4] (.ref 28 :: st) I J Q = Rn (zG xl) 17 11 [v0, v1, v2, v3, v4] (.ref 34 :: st) I J Q := (rGf f17_8 rfl).trans (tr_and rfl)
theorem x17_11 : Rn S 17 11 [v0, .int a, v2, v3, v4] st I J Q = Rn S 17 12 [v0, .int a, v2, v3, v4] (.int a :: st) I J Q := rL f17_11 rfl rfl
theorem x17_12 : Rn S 17 12 [v0, v1, v2, v3, v4] (.int a :: .ref q :: st) I J Q = (zai S q a ∧ Rn S 17 13 [v0, v1, v2, v3, v4] (.int (I q a.toNatClampNeg) :: st) I J Q) := rIal f17_12
theorem x17_13 : Rn S 17 13 [v0, v1, v2, v3, v4] (.int a :: st) I J Q = Rn S 17 15 [v0, v1, v2, zkl v3, .int a] st I J Q := rL f17_13 rfl rfl
theorem x17_15 : Rn S 17 15 [.ref q, v1, v2, v3, v4] st I J Q = Rn S 17 16 [.ref q, v1, v2, v3, v4] (.ref q :: st) I J Q := rL f17_15 rfl rfl
theorem x17_16_8 : Rn (zG xl) 17 16 [v0, v1, v2, v3, v4] (.ref 8 :: st) I J Q = Rn (zG xl) 17 19 [v0, v1, v2, v3, v4] (.ref 13 :: st) I J Q := (rGf f17_16 rfl).trans (tr_and rfl)
theorem x17_16_28 : Rn (zG xl) 17 16 [v0, v1, v2, v3, v4] (.ref 28 :: st) I J Q = Rn (zG xl) 17 19 [v0, v1, v2, v3, v4] (.ref 33 :: st) I J Q := (rGf f17_16 rfl).trans (tr_and rfl)
theorem x17_19 : Rn S 17 19 [v0, .int a, v2, v3, v4] st I J Q = Rn S 17 20 [v0, .int a, v2, v3, v4] (.int a :: st) I J Q := rL f17_19 rfl rfl
theorem x17_20 : Rn S 17 20 [.ref q, v1, v2, v3, v4] st I J Q = Rn S 17 21 [.ref q, v1, v2, v3, v4] (.ref q :: st) I J Q := rL f17_20 rfl rfl
theorem x17_21_8 : Rn (zG xl) 17 21 [v0, v1, v2, v3, v4] (.ref 8 :: st) I J Q = Rn (zG xl) 17 24 [v0, v1, v2, v3, v4] (.ref 13 :: st) I J Q := (rGf f17_21 rfl).trans (tr_and rfl)
theorem x17_21_28 : Rn (zG xl) 17 21 [v0, v1, v2, v3, v4] (.ref 28 :: st) I J Q = Rn (zG xl) 17 24 [v0, v1, v2, v3, v4] (.ref 33 :: st) I J Q := (rGf f17_21 rfl).trans (tr_and rfl)
theorem x17_24 : Rn S 17 24 [v0, v1, .int a, v3, v4] st I J Q = Rn S 17 25 [v0, v1, .int a, v3, v4] (.int a :: st) I J Q := rL f17_24 rfl rfl
theorem x17_25 : Rn S 17 25 [v0, v1, v2, v3, v4] (.int a :: .ref q :: st) I J Q = (zai S q a ∧ Rn S 17 26 [v0, v1, v2, v3, v4] (.int (I q a.toNatClampNeg) :: st) I J Q) := rIal f17_25
theorem x17_26 : Rn S 17 26 [v0, v1, v2, v3, v4] (.int b :: .int a :: .ref q :: st) I J Q = (zas S q a ∧ Rn S 17 27 [v0, v1, v2, v3, v4] st (zr I q (upd (I q) a.toNatClampNeg b)) J Q) := rIas f17_26
theorem x17_27 : Rn S 17 27 [.ref q, v1, v2, v3, v4] st I J Q = Rn S 17 28 [.ref q, v1, v2, v3, v4] (.ref q :: st) I J Q := rL f17_27 rfl rfl
theorem x17_28_8 : Rn (zG xl) 17 28 [v0, v1, v2, v3, v4] (.ref 8 :: st) I J Q = Rn (zG xl) 17 31 [v0, v1, v2, v3, v4] (.ref 14 :: st) I J Q := (rGf f17_28 rfl).trans (tr_and rfl)
theorem x17_28_28 : Rn (zG xl) 17 28 [v0, v1, v2, v3, v4] (.ref 28 :: st) I J Q = Rn (zG xl) 17 31 [v0, v1, v2, v3, v4] (.ref 34 :: st) I J Q := (rGf f17_28 rfl).trans (tr_and rfl)
theorem x17_31 : Rn S 17 31 [v0, .int a, v2, v3, v4] st I J Q = Rn S 17 32 [v0, .int a, v2, v3, v4] (.int a :: st) I J Q := rL f17_31 rfl rfl
theorem x17_32 : Rn S 17 32 [.ref q, v1, v2, v3, v4] st I J Q = Rn S 17 33 [.ref q, v1, v2, v3, v4] (.ref q :: st) I J Q := rL f17_32 rfl rfl
theorem x17_33_8 : Rn (zG xl) 17 33 [v0, v1, v2, v3, v4] (.ref 8 :: st) I J Q = Rn (zG xl) 17 36 [v0, v1, v2, v3, v4] (.ref 14 :: st) I J Q := (rGf f17_33 rfl).trans (tr_and rfl)
theorem x17_33_28 : Rn (zG xl) 17 33 [v0, v1, v2, v3, v4] (.ref 28 :: st) I J Q = Rn (zG xl) 17 36 [v0, v1, v2, v3, v4] (.ref 34 :: st) I J Q := (rGf f17_33 rfl).trans (tr_and rfl)
theorem x17_36 : Rn S 17 36 [v0, v1, .int a, v3, v4] st I J Q = Rn S 17 37 [v0, v1, .int a, v3, v4] (.int a :: st) I J Q := rL f17_36 rfl rfl
theorem x17_37 : Rn S 17 37 [v0, v1, v2, v3, v4] (.int a :: .ref q :: st) I J Q = (zai S q a ∧ Rn S 17 38 [v0, v1, v2, v3, v4] (.int (I q a.toNatClampNeg) :: st) I J Q) := rIal f17_37
theorem x17_38 : Rn S 17 38 [v0, v1, v2, v3, v4] (.int b :: .int a :: .ref q :: st) I J Q = (zas S q a ∧ Rn S 17 39 [v0, v1, v2, v3, v4] st (zr I q (upd (I q) a.toNatClampNeg b)) J Q) := rIas f17_38
theorem x17_39 : Rn S 17 39 [.ref q, v1, v2, v3, v4] st I J Q = Rn S 17 40 [.ref q, v1, v2, v3, v4] (.ref q :: st) I J Q := rL f17_39 rfl rfl
theorem x17_40_8 : Rn (zG xl) 17 40 [v0, v1, v2, v3, v4] (.ref 8 :: st) I J Q = Rn (zG xl) 17 43 [v0, v1, v2, v3, v4] (.ref 13 :: st) I J Q := (rGf f17_40 rfl).trans (tr_and rfl)
theorem x17_40_28 : Rn (zG xl) 17 40 [v0, v1, v2, v3, v4] (.ref 28 :: st) I J Q = Rn (zG xl) 17 43 [v0, v1, v2, v3, v4] (.ref 33 :: st) I J Q := (rGf f17_40 rfl).trans (tr_and rfl)
theorem x17_43 : Rn S 17 43 [v0, v1, .int a, v3, v4] st I J Q = Rn S 17 44 [v0, v1, .int a, v3, v4] (.int a :: st) I J Q := rL f17_43 rfl rfl
theorem x17_44 : Rn S 17 44 [v0, v1, v2, .int a, v4] st I J Q = Rn S 17 45 [v0, v1, v2, .int a, v4] (.int a :: st) I J Q := rL f17_44 rfl rfl
theorem x17_45 : Rn S 17 45 [v0, v1, v2, v3, v4] (.int b :: .int a :: .ref q :: st) I J Q = (zas S q a ∧ Rn S 17 46 [v0, v1, v2, v3, v4] st (zr I q (upd (I q) a.toNatClampNeg b)) J Q) := rIas f17_45
theorem x17_46 : Rn S 17 46 [.ref q, v1, v2, v3, v4] st I J Q = Rn S 17 47 [.ref q, v1, v2, v3, v4] (.ref q :: st) I J Q := rL f17_46 rfl rfl
theorem x17_47_8 : Rn (zG xl) 17 47 [v0, v1, v2, v3, v4] (.ref 8 :: st) I J Q = Rn (zG xl) 17 50 [v0, v1, v2, v3, v4] (.ref 14 :: st) I J Q := (rGf f17_47 rfl).trans (tr_and rfl)
theorem x17_47_28 : Rn (zG xl) 17 47 [v0, v1, v2, v3, v4] (.ref 28 :: st) I J Q = Rn (zG xl) 17 50 [v0, v1, v2, v3, v4] (.ref 34 :: st) I J Q := (rGf f17_47 rfl).trans (tr_and rfl)
theorem x17_50 : Rn S 17 50 [v0, v1, .int a, v3, v4] st I J Q = Rn S 17 51 [v0, v1, .int a, v3, v4] (.int a :: st) I J Q := rL f17_50 rfl rfl
theorem x17_51 : Rn S 17 51 [v0, v1, v2, v3, .int a] st I J Q = Rn S 17 53 [v0, v1, v2, v3, .int a] (.int a :: st) I J Q := rL f17_51 rfl rfl
theorem x17_53 : Rn S 17 53 [v0, v1, v2, v3, v4] (.int b :: .int a :: .ref q :: st) I J Q = (zas S q a ∧ Rn S 17 54 [v0, v1, v2, v3, v4] st (zr I q (upd (I q) a.toNatClampNeg b)) J Q) := rIas f17_53
theorem x17_54 : Rn S 17 54 [v0, v1, v2, v3, v4] [] I J Q = Q none I J := rR f17_54 rfl rfl rfl rfl rfl
/-! X1.drawShifts: 18 -/
theorem B18 : zB 18 = cX1_drawShifts := rfl
theorem f18_0 : zft 18 0 = some (.aload_n 0, 1) := fet B18 (by decide +kernel) (Or.inr rfl)
theorem f18_1 : zft 18 1 = some (.iconst 0, 1) := fet B18 (by decide +kernel) (Or.inr rfl)
theorem f18_2 : zft 18 2 = some (.putfield 53, 3) := fet B18 (by decide +kernel) (Or.inr rfl)
theorem f18_5 : zft 18 5 = some (.aload_n 0, 1) := fet B18 (by decide +kernel) (Or.inr rfl)
theorem f18_6 : zft 18 6 = some (.getfield 50, 3) := fet B18 (by decide +kernel) (Or.inr rfl)
theorem f18_9 : zft 18 9 = some (.ifCond .eq 10, 3) := fet B18 (by decide +kernel) (Or.inr rfl)
theorem f18_12 : zft 18 12 = some (.aload_n 0, 1) := fet B18 (by decide +kernel) (Or.inr rfl)
theorem f18_13 : zft 18 13 = some (.getfield 47, 3) := fet B18 (by decide +kernel) (Or.inr rfl)
theorem f18_16 : zft 18 16 = some (.ifCond .ne 4, 3) := fet B18 (by decide +kernel) (Or.inr rfl)
theorem f18_19 : zft 18 19 = some (.return_, 1) := fet B18 (by decide +kernel) (Or.inr rfl)
theorem f18_20 : zft 18 20 = some (.iload_n 1, 1) := fet B18 (by decide +kernel) (Or.inr rfl)
theorem f18_21 : zft 18 21 = some (.istore_n 3, 1) := fet B18 (by decide +kernel) (Or.inr rfl)
theorem f18_22 : zft 18 22 = some (.iconst 0, 1) := fet B18 (by decide +kernel) (Or.inr rfl)
theorem f18_23 : zft 18 23 = some (.istore 4, 2) := fet B18 (by decide +kernel) (Or.inr rfl)
theorem f18_25 : zft 18 25 = some (.iload 4, 2) := fet B18 (by decide +kernel) (Or.inr rfl)
theorem f18_27 : zft 18 27 = some (.iload_n 2, 1) := fet B18 (by decide +kernel) (Or.inr rfl)
theorem f18_28 : zft 18 28 = some (.if_icmp .ge 51, 3) := fet B18 (by decide +kernel) (Or.inr rfl)
theorem f18_31 : zft 18 31 = some (.iload_n 3, 1) := fet B18 (by decide +kernel) (Or.inr rfl)
theorem f18_32 : zft 18 32 = some (.invokestatic 91, 3) := fet B18 (by decide +kernel) (Or.inr rfl)
theorem f18_35 : zft 18 35 = some (.istore_n 3, 1) := fet B18 (by decide +kernel) (Or.inr rfl)
theorem f18_36 : zft 18 36 = some (.aload_n 0, 1) := fet B18 (by decide +kernel) (Or.inr rfl)
theorem f18_37 : zft 18 37 = some (.getfield 24, 3) := fet B18 (by decide +kernel) (Or.inr rfl)
theorem f18_40 : zft 18 40 = some (.iload 4, 2) := fet B18 (by decide +kernel) (Or.inr rfl)
theorem f18_42 : zft 18 42 = some (.iload_n 3, 1) := fet B18 (by decide +kernel) (Or.inr rfl)
theorem f18_43 : zft 18 43 = some (.bipush 16, 2) := fet B18 (by decide +kernel) (Or.inr rfl)
theorem f18_45 : zft 18 45 = some (.iushr, 1) := fet B18 (by decide +kernel) (Or.inr rfl)
theorem f18_46 : zft 18 46 = some (.aload_n 0, 1) := fet B18 (by decide +kernel) (Or.inr rfl)
theorem f18_47 : zft 18 47 = some (.getfield 50, 3) := fet B18 (by decide +kernel) (Or.inr rfl)
theorem f18_50 : zft 18 50 = some (.irem, 1) := fet B18 (by decide +kernel) (Or.inr rfl)
theorem f18_51 : zft 18 51 = some (.iastore, 1) := fet B18 (by decide +kernel) (Or.inr rfl)
theorem f18_52 : zft 18 52 = some (.iload_n 3, 1) := fet B18 (by decide +kernel) (Or.inr rfl)
theorem f18_53 : zft 18 53 = some (.invokestatic 91, 3) := fet B18 (by decide +kernel) (Or.inr rfl)
theorem f18_56 : zft 18 56 = some (.istore_n 3, 1) := fet B18 (by decide +kernel) (Or.inr rfl)
theorem f18_57 : zft 18 57 = some (.aload_n 0, 1) := fet B18 (by decide +kernel) (Or.inr rfl)
theorem f18_58 : zft 18 58 = some (.getfield 27, 3) := fet B18 (by decide +kernel) (Or.inr rfl)
theorem f18_61 : zft 18 61 = some (.iload 4, 2) := fet B18 (by decide +kernel) (Or.inr rfl)
theorem f18_63 : zft 18 63 = some (.iload_n 3, 1) := fet B18 (by decide +kernel) (Or.inr rfl)
theorem f18_64 : zft 18 64 = some (.bipush 16, 2) := fet B18 (by decide +kernel) (Or.inr rfl)
theorem f18_66 : zft 18 66 = some (.iushr, 1) := fet B18 (by decide +kernel) (Or.inr rfl)
theorem f18_67 : zft 18 67 = some (.aload_n 0, 1) := fet B18 (by decide +kernel) (Or.inr rfl)
theorem f18_68 : zft 18 68 = some (.getfield 47, 3) := fet B18 (by decide +kernel) (Or.inr rfl)
theorem f18_71 : zft 18 71 = some (.irem, 1) := fet B18 (by decide +kernel) (Or.inr rfl)
theorem f18_72 : zft 18 72 = some (.iastore, 1) := fet B18 (by decide +kernel) (Or.inr rfl)
theorem f18_73 : zft 18 73 = some (.iinc 4 1, 3) := fet B18 (by decide +kernel) (Or.inr rfl)
theorem f18_76 : zft 18 76 = some (.goto (-51), 3) := fet B18 (by decide +kernel) (Or.inr rfl)
theorem f18_79 : zft 18 79 = some (.aload_n 0, 1) := fet B18 (by decide +kernel) (Or.inr rfl)
theorem f18_80 : zft 18 80 = some (.iload_n 2, 1) := fet B18 (by decide +kernel) (Or.inr rfl)
theorem f18_81 : zft 18 81 = some (.putfield 53, 3) := fet B18 (by decide +kernel) (Or.inr rfl)
theorem f18_84 : zft 18 84 = some (.return_, 1) := fet B18 (by decide +kernel) (Or.inr rfl)
theorem x18_0 : Rn S 18 0 [.ref q, v1, v2, v3, v4] st I J Q = Rn S 18 1 [.ref q, v1, v2, v3, v4] (.ref q :: st) I J Q := rL f18_0 rfl rfl
theorem x18_1 : Rn S 18 1 [v0, v1, v2, v3, v4] st I J Q = Rn S 18 2 [v0, v1, v2, v3, v4] (.int 0 :: st) I J Q := rS f18_1 rfl
theorem x18_2_8 : Rn (zG xl) 18 2 [v0, v1, v2, v3, v4] (.int a :: .ref 8 :: st) I J Q = Rn (zG xl) 18 5 [v0, v1, v2, v3, v4] st (zr I 8 (upd (I 8) 6 a)) J Q := (rPf f18_2 rfl).trans (tr_pf rfl rfl rfl)
theorem x18_2_28 : Rn (zG xl) 18 2 [v0, v1, v2, v3, v4] (.int a :: .ref 28 :: st) I J Q = Rn (zG xl) 18 5 [v0, v1, v2, v3, v4] st (zr I 28 (upd (I 28) 6 a)) J Q := (rPf f18_2 rfl).trans (tr_pf rfl rfl rfl)
theorem x18_5 : Rn S 18 5 [.ref q, v1, v2, v3, v4] st I J Q = Rn S 18 6 [.ref q, v1, v2, v3, v4] (.ref q :: st) I J Q := rL f18_5 rfl rfl
theorem x18_6_8 : Rn (zG xl) 18 6 [v0, v1, v2, v3, v4] (.ref 8 :: st) I J Q = Rn (zG xl) 18 9 [v0, v1, v2, v3, v4] (.int (I 8 3) :: st) I J Q := (rGf f18_6 rfl).trans (tr_and rfl)
theorem x18_6_28 : Rn (zG xl) 18 6 [v0, v1, v2, v3, v4] (.ref 28 :: st) I J Q = Rn (zG xl) 18 9 [v0, v1, v2, v3, v4] (.int (I 28 3) :: st) I J Q := (rGf f18_6 rfl).trans (tr_and rfl)
theorem x18_9 : Rn S 18 9 [v0, v1, v2, v3, v4] (.int a :: st) I J Q = if a = 0 then Rn S 18 19 [v0, v1, v2, v3, v4] st I J Q else Rn S 18 12 [v0, v1, v2, v3, v4] st I J Q := rIeq f18_9 rfl rfl
theorem x18_12 : Rn S 18 12 [.ref q, v1, v2, v3, v4] st I J Q = Rn S 18 13 [.ref q, v1, v2, v3, v4] (.ref q :: st) I J Q := rL f18_12 rfl rfl
theorem x18_13_8 : Rn (zG xl) 18 13 [v0, v1, v2, v3, v4] (.ref 8 :: st) I J Q = Rn (zG xl) 18 16 [v0, v1, v2, v3, v4] (.int (I 8 0) :: st) I J Q := (rGf f18_13 rfl).trans (tr_and rfl)
theorem x18_13_28 : Rn (zG xl) 18 13 [v0, v1, v2, v3, v4] (.ref 28 :: st) I J Q = Rn (zG xl) 18 16 [v0, v1, v2, v3, v4] (.int (I 28 0) :: st) I J Q := (rGf f18_13 rfl).trans (tr_and rfl)
theorem x18_16 : Rn S 18 16 [v0, v1, v2, v3, v4] (.int a :: st) I J Q = if a = 0 then Rn S 18 19 [v0, v1, v2, v3, v4] st I J Q else Rn S 18 20 [v0, v1, v2, v3, v4] st I J Q := rIne f18_16 rfl rfl
theorem x18_19 : Rn S 18 19 [v0, v1, v2, v3, v4] [] I J Q = Q none I J := rR f18_19 rfl rfl rfl rfl rfl
theorem x18_20 : Rn S 18 20 [v0, .int a, v2, v3, v4] st I J Q = Rn S 18 21 [v0, .int a, v2, v3, v4] (.int a :: st) I J Q := rL f18_20 rfl rfl
theorem x18_21 : Rn S 18 21 [v0, v1, v2, v3, v4] (.int a :: st) I J Q = Rn S 18 22 [v0, v1, zkl v2, .int a, v4] st I J Q := rL f18_21 rfl rfl
theorem x18_22 : Rn S 18 22 [v0, v1, v2, v3, v4] st I J Q = Rn S 18 23 [v0, v1, v2, v3, v4] (.int 0 :: st) I J Q := rS f18_22 rfl
theorem x18_23 : Rn S 18 23 [v0, v1, v2, v3, v4] (.int a :: st) I J Q = Rn S 18 25 [v0, v1, v2, zkl v3, .int a] st I J Q := rL f18_23 rfl rfl
theorem h18_25 : Rn S 18 25 [v0, v1, v2, v3, .int a] st I J Q = Rn S 18 27 [v0, v1, v2, v3, .int a] (.int a :: st) I J Q := rL f18_25 rfl rfl
theorem x18_27 : Rn S 18 27 [v0, v1, .int a, v3, v4] st I J Q = Rn S 18 28 [v0, v1, .int a, v3, v4] (.int a :: st) I J Q := rL f18_27 rfl rfl
theorem x18_28 : Rn S 18 28 [v0, v1, v2, v3, v4] (.int b :: .int a :: st) I J Q = if a < b then Rn S 18 31 [v0, v1, v2, v3, v4] st I J Q else Rn S 18 79 [v0, v1, v2, v3, v4] st I J Q := rCge f18_28 rfl rfl
theorem x18_31 : Rn S 18 31 [v0, v1, v2, .int a, v4] st I J Q = Rn S 18 32 [v0, v1, v2, .int a, v4] (.int a :: st) I J Q := rL f18_31 rfl rfl
theorem x18_32 : Rn S 18 32 [v0, v1, v2, v3, v4] (.int a0 :: st) I J Q = (zcs st ≤ 8 ∧ Rn S 19 0 [.int a0] [] I J (fun v I' J' => Rn S 18 35 [v0, v1, v2, v3, v4] (v.toList ++ st) I' J' Q)) := rCS (As := [.int a0]) f18_32 rfl rfl rfl rfl (Nat.le_of_ble_eq_true rfl)
theorem x18_35 : Rn S 18 35 [v0, v1, v2, v3, v4] (.int a :: st) I J Q = Rn S 18 36 [v0, v1, zkl v2, .int a, v4] st I J Q := rL f18_35 rfl rfl
theorem x18_36 : Rn S 18 36 [.ref q, v1, v2, v3, v4] st I J Q = Rn S 18 37 [.ref q, v1, v2, v3, v4] (.ref q :: st) I J Q := rL f18_36 rfl rfl
theorem x18_37_8 : Rn (zG xl) 18 37 [v0, v1, v2, v3, v4] (.ref 8 :: st) I J Q = Rn (zG xl) 18 40 [v0, v1, v2, v3, v4] (.ref 13 :: st) I J Q := (rGf f18_37 rfl).trans (tr_and rfl)
theorem x18_37_28 : Rn (zG xl) 18 37 [v0, v1, v2, v3, v4] (.ref 28 :: st) I J Q = Rn (zG xl) 18 40 [v0, v1, v2, v3, v4] (.ref 33 :: st) I J Q := (rGf f18_37 rfl).trans (tr_and rfl)
theorem x18_40 : Rn S 18 40 [v0, v1, v2, v3, .int a] st I J Q = Rn S 18 42 [v0, v1, v2, v3, .int a] (.int a :: st) I J Q := rL f18_40 rfl rfl
theorem x18_42 : Rn S 18 42 [v0, v1, v2, .int a, v4] st I J Q = Rn S 18 43 [v0, v1, v2, .int a, v4] (.int a :: st) I J Q := rL f18_42 rfl rfl
theorem x18_43 : Rn S 18 43 [v0, v1, v2, v3, v4] st I J Q = Rn S 18 45 [v0, v1, v2, v3, v4] (.int 16 :: st) I J Q := rS f18_43 rfl
theorem x18_45 : Rn S 18 45 [v0, v1, v2, v3, v4] (.int b :: .int a :: st) I J Q = Rn S 18 46 [v0, v1, v2, v3, v4] (.int ((a.toUInt32 >>> (b.toUInt32 &&& Int32.toUInt32 31)).toInt32) :: st) I J Q := rS f18_45 rfl
theorem x18_46 : Rn S 18 46 [.ref q, v1, v2, v3, v4] st I J Q = Rn S 18 47 [.ref q, v1, v2, v3, v4] (.ref q :: st) I J Q := rL f18_46 rfl rfl
theorem x18_47_8 : Rn (zG xl) 18 47 [v0, v1, v2, v3, v4] (.ref 8 :: st) I J Q = Rn (zG xl) 18 50 [v0, v1, v2, v3, v4] (.int (I 8 3) :: st) I J Q := (rGf f18_47 rfl).trans (tr_and rfl)
theorem x18_47_28 : Rn (zG xl) 18 47 [v0, v1, v2, v3, v4] (.ref 28 :: st) I J Q = Rn (zG xl) 18 50 [v0, v1, v2, v3, v4] (.int (I 28 3) :: st) I J Q := (rGf f18_47 rfl).trans (tr_and rfl)
theorem x18_50 : Rn S 18 50 [v0, v1, v2, v3, v4] (.int b :: .int a :: st) I J Q = (¬ b = 0 ∧ Rn S 18 51 [v0, v1, v2, v3, v4] (.int (a - a / b * b) :: st) I J Q) := rRi f18_50
theorem x18_51 : Rn S 18 51 [v0, v1, v2, v3, v4] (.int b :: .int a :: .ref q :: st) I J Q = (zas S q a ∧ Rn S 18 52 [v0, v1, v2, v3, v4] st (zr I q (upd (I q) a.toNatClampNeg b)) J Q) := rIas f18_51
theorem x18_52 : Rn S 18 52 [v0, v1, v2, .int a, v4] st I J Q = Rn S 18 53 [v0, v1, v2, .int a, v4] (.int a :: st) I J Q := rL f18_52 rfl rfl
theorem x18_53 : Rn S 18 53 [v0, v1, v2, v3, v4] (.int a0 :: st) I J Q = (zcs st ≤ 8 ∧ Rn S 19 0 [.int a0] [] I J (fun v I' J' => Rn S 18 56 [v0, v1, v2, v3, v4] (v.toList ++ st) I' J' Q)) := rCS (As := [.int a0]) f18_53 rfl rfl rfl rfl (Nat.le_of_ble_eq_true rfl)
theorem x18_56 : Rn S 18 56 [v0, v1, v2, v3, v4] (.int a :: st) I J Q = Rn S 18 57 [v0, v1, zkl v2, .int a, v4] st I J Q := rL f18_56 rfl rfl
theorem x18_57 : Rn S 18 57 [.ref q, v1, v2, v3, v4] st I J Q = Rn S 18 58 [.ref q, v1, v2, v3, v4] (.ref q :: st) I J Q := rL f18_57 rfl rfl
theorem x18_58_8 : Rn (zG xl) 18 58 [v0, v1, v2, v3, v4] (.ref 8 :: st) I J Q = Rn (zG xl) 18 61 [v0, v1, v2, v3, v4] (.ref 14 :: st) I J Q := (rGf f18_58 rfl).trans (tr_and rfl)
theorem x18_58_28 : Rn (zG xl) 18 58 [v0, v1, v2, v3, v4] (.ref 28 :: st) I J Q = Rn (zG xl) 18 61 [v0, v1, v2, v3, v4] (.ref 34 :: st) I J Q := (rGf f18_58 rfl).trans (tr_and rfl)
theorem x18_61 : Rn S 18 61 [v0, v1, v2, v3, .int a] st I J Q = Rn S 18 63 [v0, v1, v2, v3, .int a] (.int a :: st) I J Q := rL f18_61 rfl rfl
theorem x18_63 : Rn S 18 63 [v0, v1, v2, .int a, v4] st I J Q = Rn S 18 64 [v0, v1, v2, .int a, v4] (.int a :: st) I J Q := rL f18_63 rfl rfl
theorem x18_64 : Rn S 18 64 [v0, v1, v2, v3, v4] st I J Q = Rn S 18 66 [v0, v1, v2, v3, v4] (.int 16 :: st) I J Q := rS f18_64 rfl
theorem x18_66 : Rn S 18 66 [v0, v1, v2, v3, v4] (.int b :: .int a :: st) I J Q = Rn S 18 67 [v0, v1, v2, v3, v4] (.int ((a.toUInt32 >>> (b.toUInt32 &&& Int32.toUInt32 31)).toInt32) :: st) I J Q := rS f18_66 rfl
theorem x18_67 : Rn S 18 67 [.ref q, v1, v2, v3, v4] st I J Q = Rn S 18 68 [.ref q, v1, v2, v3, v4] (.ref q :: st) I J Q := rL f18_67 rfl rfl
theorem x18_68_8 : Rn (zG xl) 18 68 [v0, v1, v2, v3, v4] (.ref 8 :: st) I J Q = Rn (zG xl) 18 71 [v0, v1, v2, v3, v4] (.int (I 8 0) :: st) I J Q := (rGf f18_68 rfl).trans (tr_and rfl)
theorem x18_68_28 : Rn (zG xl) 18 68 [v0, v1, v2, v3, v4] (.ref 28 :: st) I J Q = Rn (zG xl) 18 71 [v0, v1, v2, v3, v4] (.int (I 28 0) :: st) I J Q := (rGf f18_68 rfl).trans (tr_and rfl)
theorem x18_71 : Rn S 18 71 [v0, v1, v2, v3, v4] (.int b :: .int a :: st) I J Q = (¬ b = 0 ∧ Rn S 18 72 [v0, v1, v2, v3, v4] (.int (a - a / b * b) :: st) I J Q) := rRi f18_71
theorem x18_72 : Rn S 18 72 [v0, v1, v2, v3, v4] (.int b :: .int a :: .ref q :: st) I J Q = (zas S q a ∧ Rn S 18 73 [v0, v1, v2, v3, v4] st (zr I q (upd (I q) a.toNatClampNeg b)) J Q) := rIas f18_72
theorem x18_73 : Rn S 18 73 [v0, v1, v2, v3, .int a] st I J Q = Rn S 18 76 [v0, v1, v2, zkl v3, .int (a + 1)] st I J Q := rL f18_73 rfl rfl
theorem x18_76 : Rn S 18 76 [v0, v1, v2, v3, v4] st I J Q = Rn S 18 25 [v0, v1, v2, v3, v4] st I J Q := rB f18_76 rfl rfl rfl
theorem x18_79 : Rn S 18 79 [.ref q, v1, v2, v3, v4] st I J Q = Rn S 18 80 [.ref q, v1, v2, v3, v4] (.ref q :: st) I J Q := rL f18_79 rfl rfl
theorem x18_80 : Rn S 18 80 [v0, v1, .int a, v3, v4] st I J Q = Rn S 18 81 [v0, v1, .int a, v3, v4] (.int a :: st) I J Q := rL f18_80 rfl rfl
theorem x18_81_8 : Rn (zG xl) 18 81 [v0, v1, v2, v3, v4] (.int a :: .ref 8 :: st) I J Q = Rn (zG xl) 18 84 [v0, v1, v2, v3, v4] st (zr I 8 (upd (I 8) 6 a)) J Q := (rPf f18_81 rfl).trans (tr_pf rfl rfl rfl)
theorem x18_81_28 : Rn (zG xl) 18 81 [v0, v1, v2, v3, v4] (.int a :: .ref 28 :: st) I J Q = Rn (zG xl) 18 84 [v0, v1, v2, v3, v4] st (zr I 28 (upd (I 28) 6 a)) J Q := (rPf f18_81 rfl).trans (tr_pf rfl rfl rfl)
theorem x18_84 : Rn S 18 84 [v0, v1, v2, v3, v4] [] I J Q = Q none I J := rR f18_84 rfl rfl rfl rfl rfl
/-! X1.nextSeed: 19 -/
theorem B19 : zB 19 = cX1_nextSeed := rfl
theorem f19_0 : zft 19 0 = some (.ldc 94, 2) := fet B19 (by decide +kernel) (Or.inr rfl)
theorem f19_2 : zft 19 2 = some (.iload_n 0, 1) := fet B19 (by decide +kernel) (Or.inr rfl)
theorem f19_3 : zft 19 3 = some (.imul, 1) := fet B19 (by decide +kernel) (Or.inr rfl)
theorem f19_4 : zft 19 4 = some (.sipush 12345, 3) := fet B19 (by decide +kernel) (Or.inr rfl)
theorem f19_7 : zft 19 7 = some (.iadd, 1) := fet B19 (by decide +kernel) (Or.inr rfl)
theorem f19_8 : zft 19 8 = some (.ireturn, 1) := fet B19 (by decide +kernel) (Or.inr rfl)
theorem x19_0 : Rn S 19 0 [v0] st I J Q = Rn S 19 2 [v0] (.int 1103515245 :: st) I J Q := rS f19_0 rfl
theorem x19_2 : Rn S 19 2 [.int a] st I J Q = Rn S 19 3 [.int a] (.int a :: st) I J Q := rL f19_2 rfl rfl
theorem x19_3 : Rn S 19 3 [v0] (.int b :: .int a :: st) I J Q = Rn S 19 4 [v0] (.int (a * b) :: st) I J Q := rS f19_3 rfl
theorem x19_4 : Rn S 19 4 [v0] st I J Q = Rn S 19 7 [v0] (.int 12345 :: st) I J Q := rS f19_4 rfl
theorem x19_7 : Rn S 19 7 [v0] (.int b :: .int a :: st) I J Q = Rn S 19 8 [v0] (.int (a + b) :: st) I J Q := rS f19_7 rfl
theorem x19_8 : Rn S 19 8 [v0] [.int a] I J Q = Q (some (.int a)) I J := rR f19_8 rfl rfl rfl rfl rfl
/-! X1.eventsIn: 20 -/
theorem B20 : zB 20 = cX1_eventsIn := rfl
theorem f20_0 : zft 20 0 = some (.iconst 0, 1) := fet B20 (by decide +kernel) (Or.inr rfl)
theorem f20_1 : zft 20 1 = some (.istore 5, 2) := fet B20 (by decide +kernel) (Or.inr rfl)
theorem f20_3 : zft 20 3 = some (.iconst 0, 1) := fet B20 (by decide +kernel) (Or.inr rfl)
theorem f20_4 : zft 20 4 = some (.istore 6, 2) := fet B20 (by decide +kernel) (Or.inr rfl)
theorem f20_6 : zft 20 6 = some (.iload 6, 2) := fet B20 (by decide +kernel) (Or.inr rfl)
theorem f20_8 : zft 20 8 = some (.aload_n 0, 1) := fet B20 (by decide +kernel) (Or.inr rfl)
theorem f20_9 : zft 20 9 = some (.getfield 69, 3) := fet B20 (by decide +kernel) (Or.inr rfl)
theorem f20_12 : zft 20 12 = some (.if_icmp .ge 93, 3) := fet B20 (by decide +kernel) (Or.inr rfl)
theorem f20_15 : zft 20 15 = some (.aload_n 0, 1) := fet B20 (by decide +kernel) (Or.inr rfl)
theorem f20_16 : zft 20 16 = some (.getfield 72, 3) := fet B20 (by decide +kernel) (Or.inr rfl)
theorem f20_19 : zft 20 19 = some (.iload 6, 2) := fet B20 (by decide +kernel) (Or.inr rfl)
theorem f20_21 : zft 20 21 = some (.ishr, 1) := fet B20 (by decide +kernel) (Or.inr rfl)
theorem f20_22 : zft 20 22 = some (.iconst 1, 1) := fet B20 (by decide +kernel) (Or.inr rfl)
theorem f20_23 : zft 20 23 = some (.iand, 1) := fet B20 (by decide +kernel) (Or.inr rfl)
theorem f20_24 : zft 20 24 = some (.ifCond .ne 7, 3) := fet B20 (by decide +kernel) (Or.inr rfl)
theorem f20_27 : zft 20 27 = some (.iconst 1, 1) := fet B20 (by decide +kernel) (Or.inr rfl)
theorem f20_28 : zft 20 28 = some (.goto 4, 3) := fet B20 (by decide +kernel) (Or.inr rfl)
theorem f20_31 : zft 20 31 = some (.iconst 0, 1) := fet B20 (by decide +kernel) (Or.inr rfl)
theorem f20_32 : zft 20 32 = some (.istore 7, 2) := fet B20 (by decide +kernel) (Or.inr rfl)
theorem f20_34 : zft 20 34 = some (.aload_n 0, 1) := fet B20 (by decide +kernel) (Or.inr rfl)
theorem f20_35 : zft 20 35 = some (.getfield 30, 3) := fet B20 (by decide +kernel) (Or.inr rfl)
theorem f20_38 : zft 20 38 = some (.iload 6, 2) := fet B20 (by decide +kernel) (Or.inr rfl)
theorem f20_40 : zft 20 40 = some (.iaload, 1) := fet B20 (by decide +kernel) (Or.inr rfl)
theorem f20_41 : zft 20 41 = some (.iload_n 1, 1) := fet B20 (by decide +kernel) (Or.inr rfl)
theorem f20_42 : zft 20 42 = some (.if_icmp .ne 18, 3) := fet B20 (by decide +kernel) (Or.inr rfl)
theorem f20_45 : zft 20 45 = some (.aload_n 0, 1) := fet B20 (by decide +kernel) (Or.inr rfl)
theorem f20_46 : zft 20 46 = some (.getfield 33, 3) := fet B20 (by decide +kernel) (Or.inr rfl)
theorem f20_49 : zft 20 49 = some (.iload 6, 2) := fet B20 (by decide +kernel) (Or.inr rfl)
theorem f20_51 : zft 20 51 = some (.iaload, 1) := fet B20 (by decide +kernel) (Or.inr rfl)
theorem f20_52 : zft 20 52 = some (.iload_n 2, 1) := fet B20 (by decide +kernel) (Or.inr rfl)
theorem f20_53 : zft 20 53 = some (.if_icmp .ne 7, 3) := fet B20 (by decide +kernel) (Or.inr rfl)
theorem f20_56 : zft 20 56 = some (.iconst 1, 1) := fet B20 (by decide +kernel) (Or.inr rfl)
theorem f20_57 : zft 20 57 = some (.goto 4, 3) := fet B20 (by decide +kernel) (Or.inr rfl)
theorem f20_60 : zft 20 60 = some (.iconst 0, 1) := fet B20 (by decide +kernel) (Or.inr rfl)
theorem f20_61 : zft 20 61 = some (.istore 8, 2) := fet B20 (by decide +kernel) (Or.inr rfl)
theorem f20_63 : zft 20 63 = some (.iload 7, 2) := fet B20 (by decide +kernel) (Or.inr rfl)
theorem f20_65 : zft 20 65 = some (.ifCond .eq 34, 3) := fet B20 (by decide +kernel) (Or.inr rfl)
theorem f20_68 : zft 20 68 = some (.iload 8, 2) := fet B20 (by decide +kernel) (Or.inr rfl)
theorem f20_70 : zft 20 70 = some (.ifCond .eq 29, 3) := fet B20 (by decide +kernel) (Or.inr rfl)
theorem f20_73 : zft 20 73 = some (.aload_n 0, 1) := fet B20 (by decide +kernel) (Or.inr rfl)
theorem f20_74 : zft 20 74 = some (.getfield 36, 3) := fet B20 (by decide +kernel) (Or.inr rfl)
theorem f20_77 : zft 20 77 = some (.iload 6, 2) := fet B20 (by decide +kernel) (Or.inr rfl)
theorem f20_79 : zft 20 79 = some (.iaload, 1) := fet B20 (by decide +kernel) (Or.inr rfl)
theorem f20_80 : zft 20 80 = some (.iload_n 3, 1) := fet B20 (by decide +kernel) (Or.inr rfl)
theorem f20_81 : zft 20 81 = some (.if_icmp .lt 18, 3) := fet B20 (by decide +kernel) (Or.inr rfl)
theorem f20_84 : zft 20 84 = some (.aload_n 0, 1) := fet B20 (by decide +kernel) (Or.inr rfl)
theorem f20_85 : zft 20 85 = some (.getfield 36, 3) := fet B20 (by decide +kernel) (Or.inr rfl)
theorem f20_88 : zft 20 88 = some (.iload 6, 2) := fet B20 (by decide +kernel) (Or.inr rfl)
theorem f20_90 : zft 20 90 = some (.iaload, 1) := fet B20 (by decide +kernel) (Or.inr rfl)
theorem f20_91 : zft 20 91 = some (.iload 4, 2) := fet B20 (by decide +kernel) (Or.inr rfl)
theorem f20_93 : zft 20 93 = some (.if_icmp .gt 6, 3) := fet B20 (by decide +kernel) (Or.inr rfl)
theorem f20_96 : zft 20 96 = some (.iinc 5 1, 3) := fet B20 (by decide +kernel) (Or.inr rfl)
theorem f20_99 : zft 20 99 = some (.iinc 6 1, 3) := fet B20 (by decide +kernel) (Or.inr rfl)
theorem f20_102 : zft 20 102 = some (.goto (-96), 3) := fet B20 (by decide +kernel) (Or.inr rfl)
theorem f20_105 : zft 20 105 = some (.iload 5, 2) := fet B20 (by decide +kernel) (Or.inr rfl)
theorem f20_107 : zft 20 107 = some (.ireturn, 1) := fet B20 (by decide +kernel) (Or.inr rfl)
theorem x20_0 : Rn S 20 0 [v0, v1, v2, v3, v4, v5, v6, v7, v8] st I J Q = Rn S 20 1 [v0, v1, v2, v3, v4, v5, v6, v7, v8] (.int 0 :: st) I J Q := rS f20_0 rfl
theorem x20_1 : Rn S 20 1 [v0, v1, v2, v3, v4, v5, v6, v7, v8] (.int a :: st) I J Q = Rn S 20 3 [v0, v1, v2, v3, zkl v4, .int a, v6, v7, v8] st I J Q := rL f20_1 rfl rfl
theorem x20_3 : Rn S 20 3 [v0, v1, v2, v3, v4, v5, v6, v7, v8] st I J Q = Rn S 20 4 [v0, v1, v2, v3, v4, v5, v6, v7, v8] (.int 0 :: st) I J Q := rS f20_3 rfl
theorem x20_4 : Rn S 20 4 [v0, v1, v2, v3, v4, v5, v6, v7, v8] (.int a :: st) I J Q = Rn S 20 6 [v0, v1, v2, v3, v4, zkl v5, .int a, v7, v8] st I J Q := rL f20_4 rfl rfl
theorem h20_6 : Rn S 20 6 [v0, v1, v2, v3, v4, v5, .int a, v7, v8] st I J Q = Rn S 20 8 [v0, v1, v2, v3, v4, v5, .int a, v7, v8] (.int a :: st) I J Q := rL f20_6 rfl rfl
theorem x20_8 : Rn S 20 8 [.ref q, v1, v2, v3, v4, v5, v6, v7, v8] st I J Q = Rn S 20 9 [.ref q, v1, v2, v3, v4, v5, v6, v7, v8] (.ref q :: st) I J Q := rL f20_8 rfl rfl
theorem x20_9_8 : Rn (zG xl) 20 9 [v0, v1, v2, v3, v4, v5, v6, v7, v8] (.ref 8 :: st) I J Q = Rn (zG xl) 20 12 [v0, v1, v2, v3, v4, v5, v6, v7, v8] (.int (I 8 9) :: st) I J Q := (rGf f20_9 rfl).trans (tr_and rfl)
theorem x20_9_28 : Rn (zG xl) 20 9 [v0, v1, v2, v3, v4, v5, v6, v7, v8] (.ref 28 :: st) I J Q = Rn (zG xl) 20 12 [v0, v1, v2, v3, v4, v5, v6, v7, v8] (.int (I 28 9) :: st) I J Q := (rGf f20_9 rfl).trans (tr_and rfl)
theorem x20_12 : Rn S 20 12 [v0, v1, v2, v3, v4, v5, v6, v7, v8] (.int b :: .int a :: st) I J Q = if a < b then Rn S 20 15 [v0, v1, v2, v3, v4, v5, v6, v7, v8] st I J Q else Rn S 20 105 [v0, v1, v2, v3, v4, v5, v6, v7, v8] st I J Q := rCge f20_12 rfl rfl
theorem x20_15 : Rn S 20 15 [.ref q, v1, v2, v3, v4, v5, v6, v7, v8] st I J Q = Rn S 20 16 [.ref q, v1, v2, v3, v4, v5, v6, v7, v8] (.ref q :: st) I J Q := rL f20_15 rfl rfl
theorem x20_16_8 : Rn (zG xl) 20 16 [v0, v1, v2, v3, v4, v5, v6, v7, v8] (.ref 8 :: st) I J Q = Rn (zG xl) 20 19 [v0, v1, v2, v3, v4, v5, v6, v7, v8] (.int (I 8 13) :: st) I J Q := (rGf f20_16 rfl).trans (tr_and rfl)
theorem x20_16_28 : Rn (zG xl) 20 16 [v0, v1, v2, v3, v4, v5, v6, v7, v8] (.ref 28 :: st) I J Q = Rn (zG xl) 20 19 [v0, v1, v2, v3, v4, v5, v6, v7, v8] (.int (I 28 13) :: st) I J Q := (rGf f20_16 rfl).trans (tr_and rfl)
theorem x20_19 : Rn S 20 19 [v0, v1, v2, v3, v4, v5, .int a, v7, v8] st I J Q = Rn S 20 21 [v0, v1, v2, v3, v4, v5, .int a, v7, v8] (.int a :: st) I J Q := rL f20_19 rfl rfl
theorem x20_21 : Rn S 20 21 [v0, v1, v2, v3, v4, v5, v6, v7, v8] (.int b :: .int a :: st) I J Q = Rn S 20 22 [v0, v1, v2, v3, v4, v5, v6, v7, v8] (.int (a >>> (b &&& 31)) :: st) I J Q := rS f20_21 rfl
theorem x20_22 : Rn S 20 22 [v0, v1, v2, v3, v4, v5, v6, v7, v8] st I J Q = Rn S 20 23 [v0, v1, v2, v3, v4, v5, v6, v7, v8] (.int 1 :: st) I J Q := rS f20_22 rfl
theorem x20_23 : Rn S 20 23 [v0, v1, v2, v3, v4, v5, v6, v7, v8] (.int b :: .int a :: st) I J Q = Rn S 20 24 [v0, v1, v2, v3, v4, v5, v6, v7, v8] (.int (a &&& b) :: st) I J Q := rS f20_23 rfl
theorem x20_24 : Rn S 20 24 [v0, v1, v2, v3, v4, v5, v6, v7, v8] (.int a :: st) I J Q = if a = 0 then Rn S 20 27 [v0, v1, v2, v3, v4, v5, v6, v7, v8] st I J Q else Rn S 20 31 [v0, v1, v2, v3, v4, v5, v6, v7, v8] st I J Q := rIne f20_24 rfl rfl
theorem x20_27 : Rn S 20 27 [v0, v1, v2, v3, v4, v5, v6, v7, v8] st I J Q = Rn S 20 28 [v0, v1, v2, v3, v4, v5, v6, v7, v8] (.int 1 :: st) I J Q := rS f20_27 rfl
theorem x20_28 : Rn S 20 28 [v0, v1, v2, v3, v4, v5, v6, v7, v8] st I J Q = Rn S 20 32 [v0, v1, v2, v3, v4, v5, v6, v7, v8] st I J Q := rB f20_28 rfl rfl rfl
theorem x20_31 : Rn S 20 31 [v0, v1, v2, v3, v4, v5, v6, v7, v8] st I J Q = Rn S 20 32 [v0, v1, v2, v3, v4, v5, v6, v7, v8] (.int 0 :: st) I J Q := rS f20_31 rfl
theorem x20_32 : Rn S 20 32 [v0, v1, v2, v3, v4, v5, v6, v7, v8] (.int a :: st) I J Q = Rn S 20 34 [v0, v1, v2, v3, v4, v5, zkl v6, .int a, v8] st I J Q := rL f20_32 rfl rfl
theorem x20_34 : Rn S 20 34 [.ref q, v1, v2, v3, v4, v5, v6, v7, v8] st I J Q = Rn S 20 35 [.ref q, v1, v2, v3, v4, v5, v6, v7, v8] (.ref q :: st) I J Q := rL f20_34 rfl rfl
theorem x20_35_8 : Rn (zG xl) 20 35 [v0, v1, v2, v3, v4, v5, v6, v7, v8] (.ref 8 :: st) I J Q = Rn (zG xl) 20 38 [v0, v1, v2, v3, v4, v5, v6, v7, v8] (.ref 15 :: st) I J Q := (rGf f20_35 rfl).trans (tr_and rfl)
theorem x20_35_28 : Rn (zG xl) 20 35 [v0, v1, v2, v3, v4, v5, v6, v7, v8] (.ref 28 :: st) I J Q = Rn (zG xl) 20 38 [v0, v1, v2, v3, v4, v5, v6, v7, v8] (.ref 35 :: st) I J Q := (rGf f20_35 rfl).trans (tr_and rfl)
theorem x20_38 : Rn S 20 38 [v0, v1, v2, v3, v4, v5, .int a, v7, v8] st I J Q = Rn S 20 40 [v0, v1, v2, v3, v4, v5, .int a, v7, v8] (.int a :: st) I J Q := rL f20_38 rfl rfl
theorem x20_40 : Rn S 20 40 [v0, v1, v2, v3, v4, v5, v6, v7, v8] (.int a :: .ref q :: st) I J Q = (zai S q a ∧ Rn S 20 41 [v0, v1, v2, v3, v4, v5, v6, v7, v8] (.int (I q a.toNatClampNeg) :: st) I J Q) := rIal f20_40
theorem x20_41 : Rn S 20 41 [v0, .int a, v2, v3, v4, v5, v6, v7, v8] st I J Q = Rn S 20 42 [v0, .int a, v2, v3, v4, v5, v6, v7, v8] (.int a :: st) I J Q := rL f20_41 rfl rfl
theorem x20_42 : Rn S 20 42 [v0, v1, v2, v3, v4, v5, v6, v7, v8] (.int b :: .int a :: st) I J Q = if a = b then Rn S 20 45 [v0, v1, v2, v3, v4, v5, v6, v7, v8] st I J Q else Rn S 20 60 [v0, v1, v2, v3, v4, v5, v6, v7, v8] st I J Q := rCne f20_42 rfl rfl
theorem x20_45 : Rn S 20 45 [.ref q, v1, v2, v3, v4, v5, v6, v7, v8] st I J Q = Rn S 20 46 [.ref q, v1, v2, v3, v4, v5, v6, v7, v8] (.ref q :: st) I J Q := rL f20_45 rfl rfl
theorem x20_46_8 : Rn (zG xl) 20 46 [v0, v1, v2, v3, v4, v5, v6, v7, v8] (.ref 8 :: st) I J Q = Rn (zG xl) 20 49 [v0, v1, v2, v3, v4, v5, v6, v7, v8] (.ref 16 :: st) I J Q := (rGf f20_46 rfl).trans (tr_and rfl)
theorem x20_46_28 : Rn (zG xl) 20 46 [v0, v1, v2, v3, v4, v5, v6, v7, v8] (.ref 28 :: st) I J Q = Rn (zG xl) 20 49 [v0, v1, v2, v3, v4, v5, v6, v7, v8] (.ref 36 :: st) I J Q := (rGf f20_46 rfl).trans (tr_and rfl)
theorem x20_49 : Rn S 20 49 [v0, v1, v2, v3, v4, v5, .int a, v7, v8] st I J Q = Rn S 20 51 [v0, v1, v2, v3, v4, v5, .int a, v7, v8] (.int a :: st) I J Q := rL f20_49 rfl rfl
theorem x20_51 : Rn S 20 51 [v0, v1, v2, v3, v4, v5, v6, v7, v8] (.int a :: .ref q :: st) I J Q = (zai S q a ∧ Rn S 20 52 [v0, v1, v2, v3, v4, v5, v6, v7, v8] (.int (I q a.toNatClampNeg) :: st) I J Q) := rIal f20_51
theorem x20_52 : Rn S 20 52 [v0, v1, .int a, v3, v4, v5, v6, v7, v8] st I J Q = Rn S 20 53 [v0, v1, .int a, v3, v4, v5, v6, v7, v8] (.int a :: st) I J Q := rL f20_52 rfl rfl
theorem x20_53 : Rn S 20 53 [v0, v1, v2, v3, v4, v5, v6, v7, v8] (.int b :: .int a :: st) I J Q = if a = b then Rn S 20 56 [v0, v1, v2, v3, v4, v5, v6, v7, v8] st I J Q else Rn S 20 60 [v0, v1, v2, v3, v4, v5, v6, v7, v8] st I J Q := rCne f20_53 rfl rfl
theorem x20_56 : Rn S 20 56 [v0, v1, v2, v3, v4, v5, v6, v7, v8] st I J Q = Rn S 20 57 [v0, v1, v2, v3, v4, v5, v6, v7, v8] (.int 1 :: st) I J Q := rS f20_56 rfl
theorem x20_57 : Rn S 20 57 [v0, v1, v2, v3, v4, v5, v6, v7, v8] st I J Q = Rn S 20 61 [v0, v1, v2, v3, v4, v5, v6, v7, v8] st I J Q := rB f20_57 rfl rfl rfl
theorem x20_60 : Rn S 20 60 [v0, v1, v2, v3, v4, v5, v6, v7, v8] st I J Q = Rn S 20 61 [v0, v1, v2, v3, v4, v5, v6, v7, v8] (.int 0 :: st) I J Q := rS f20_60 rfl
theorem x20_61 : Rn S 20 61 [v0, v1, v2, v3, v4, v5, v6, v7, v8] (.int a :: st) I J Q = Rn S 20 63 [v0, v1, v2, v3, v4, v5, v6, zkl v7, .int a] st I J Q := rL f20_61 rfl rfl
theorem x20_63 : Rn S 20 63 [v0, v1, v2, v3, v4, v5, v6, .int a, v8] st I J Q = Rn S 20 65 [v0, v1, v2, v3, v4, v5, v6, .int a, v8] (.int a :: st) I J Q := rL f20_63 rfl rfl
theorem x20_65 : Rn S 20 65 [v0, v1, v2, v3, v4, v5, v6, v7, v8] (.int a :: st) I J Q = if a = 0 then Rn S 20 99 [v0, v1, v2, v3, v4, v5, v6, v7, v8] st I J Q else Rn S 20 68 [v0, v1, v2, v3, v4, v5, v6, v7, v8] st I J Q := rIeq f20_65 rfl rfl
theorem x20_68 : Rn S 20 68 [v0, v1, v2, v3, v4, v5, v6, v7, .int a] st I J Q = Rn S 20 70 [v0, v1, v2, v3, v4, v5, v6, v7, .int a] (.int a :: st) I J Q := rL f20_68 rfl rfl
theorem x20_70 : Rn S 20 70 [v0, v1, v2, v3, v4, v5, v6, v7, v8] (.int a :: st) I J Q = if a = 0 then Rn S 20 99 [v0, v1, v2, v3, v4, v5, v6, v7, v8] st I J Q else Rn S 20 73 [v0, v1, v2, v3, v4, v5, v6, v7, v8] st I J Q := rIeq f20_70 rfl rfl
theorem x20_73 : Rn S 20 73 [.ref q, v1, v2, v3, v4, v5, v6, v7, v8] st I J Q = Rn S 20 74 [.ref q, v1, v2, v3, v4, v5, v6, v7, v8] (.ref q :: st) I J Q := rL f20_73 rfl rfl
theorem x20_74_8 : Rn (zG xl) 20 74 [v0, v1, v2, v3, v4, v5, v6, v7, v8] (.ref 8 :: st) I J Q = Rn (zG xl) 20 77 [v0, v1, v2, v3, v4, v5, v6, v7, v8] (.ref 17 :: st) I J Q := (rGf f20_74 rfl).trans (tr_and rfl)
theorem x20_74_28 : Rn (zG xl) 20 74 [v0, v1, v2, v3, v4, v5, v6, v7, v8] (.ref 28 :: st) I J Q = Rn (zG xl) 20 77 [v0, v1, v2, v3, v4, v5, v6, v7, v8] (.ref 37 :: st) I J Q := (rGf f20_74 rfl).trans (tr_and rfl)
theorem x20_77 : Rn S 20 77 [v0, v1, v2, v3, v4, v5, .int a, v7, v8] st I J Q = Rn S 20 79 [v0, v1, v2, v3, v4, v5, .int a, v7, v8] (.int a :: st) I J Q := rL f20_77 rfl rfl
theorem x20_79 : Rn S 20 79 [v0, v1, v2, v3, v4, v5, v6, v7, v8] (.int a :: .ref q :: st) I J Q = (zai S q a ∧ Rn S 20 80 [v0, v1, v2, v3, v4, v5, v6, v7, v8] (.int (I q a.toNatClampNeg) :: st) I J Q) := rIal f20_79
theorem x20_80 : Rn S 20 80 [v0, v1, v2, .int a, v4, v5, v6, v7, v8] st I J Q = Rn S 20 81 [v0, v1, v2, .int a, v4, v5, v6, v7, v8] (.int a :: st) I J Q := rL f20_80 rfl rfl
theorem x20_81 : Rn S 20 81 [v0, v1, v2, v3, v4, v5, v6, v7, v8] (.int b :: .int a :: st) I J Q = if a < b then Rn S 20 99 [v0, v1, v2, v3, v4, v5, v6, v7, v8] st I J Q else Rn S 20 84 [v0, v1, v2, v3, v4, v5, v6, v7, v8] st I J Q := rClt f20_81 rfl rfl
theorem x20_84 : Rn S 20 84 [.ref q, v1, v2, v3, v4, v5, v6, v7, v8] st I J Q = Rn S 20 85 [.ref q, v1, v2, v3, v4, v5, v6, v7, v8] (.ref q :: st) I J Q := rL f20_84 rfl rfl
theorem x20_85_8 : Rn (zG xl) 20 85 [v0, v1, v2, v3, v4, v5, v6, v7, v8] (.ref 8 :: st) I J Q = Rn (zG xl) 20 88 [v0, v1, v2, v3, v4, v5, v6, v7, v8] (.ref 17 :: st) I J Q := (rGf f20_85 rfl).trans (tr_and rfl)
theorem x20_85_28 : Rn (zG xl) 20 85 [v0, v1, v2, v3, v4, v5, v6, v7, v8] (.ref 28 :: st) I J Q = Rn (zG xl) 20 88 [v0, v1, v2, v3, v4, v5, v6, v7, v8] (.ref 37 :: st) I J Q := (rGf f20_85 rfl).trans (tr_and rfl)
theorem x20_88 : Rn S 20 88 [v0, v1, v2, v3, v4, v5, .int a, v7, v8] st I J Q = Rn S 20 90 [v0, v1, v2, v3, v4, v5, .int a, v7, v8] (.int a :: st) I J Q := rL f20_88 rfl rfl
theorem x20_90 : Rn S 20 90 [v0, v1, v2, v3, v4, v5, v6, v7, v8] (.int a :: .ref q :: st) I J Q = (zai S q a ∧ Rn S 20 91 [v0, v1, v2, v3, v4, v5, v6, v7, v8] (.int (I q a.toNatClampNeg) :: st) I J Q) := rIal f20_90
theorem x20_91 : Rn S 20 91 [v0, v1, v2, v3, .int a, v5, v6, v7, v8] st I J Q = Rn S 20 93 [v0, v1, v2, v3, .int a, v5, v6, v7, v8] (.int a :: st) I J Q := rL f20_91 rfl rfl
theorem x20_93 : Rn S 20 93 [v0, v1, v2, v3, v4, v5, v6, v7, v8] (.int b :: .int a :: st) I J Q = if b < a then Rn S 20 99 [v0, v1, v2, v3, v4, v5, v6, v7, v8] st I J Q else Rn S 20 96 [v0, v1, v2, v3, v4, v5, v6, v7, v8] st I J Q := rCgt f20_93 rfl rfl
theorem x20_96 : Rn S 20 96 [v0, v1, v2, v3, v4, .int a, v6, v7, v8] st I J Q = Rn S 20 99 [v0, v1, v2, v3, zkl v4, .int (a + 1), v6, v7, v8] st I J Q := rL f20_96 rfl rfl
theorem x20_99 : Rn S 20 99 [v0, v1, v2, v3, v4, v5, .int a, v7, v8] st I J Q = Rn S 20 102 [v0, v1, v2, v3, v4, zkl v5, .int (a + 1), v7, v8] st I J Q := rL f20_99 rfl rfl
theorem x20_102 : Rn S 20 102 [v0, v1, v2, v3, v4, v5, v6, v7, v8] st I J Q = Rn S 20 6 [v0, v1, v2, v3, v4, v5, v6, v7, v8] st I J Q := rB f20_102 rfl rfl rfl
theorem x20_105 : Rn S 20 105 [v0, v1, v2, v3, v4, .int a, v6, v7, v8] st I J Q = Rn S 20 107 [v0, v1, v2, v3, v4, .int a, v6, v7, v8] (.int a :: st) I J Q := rL f20_105 rfl rfl
theorem x20_107 : Rn S 20 107 [v0, v1, v2, v3, v4, v5, v6, v7, v8] [.int a] I J Q = Q (some (.int a)) I J := rR f20_107 rfl rfl rfl rfl rfl
/-! X1.pace: 21 -/
theorem B21 : zB 21 = cX1_pace := rfl
theorem f21_0 : zft 21 0 = some (.aload_n 0, 1) := fet B21 (by decide +kernel) (Or.inr rfl)
theorem f21_1 : zft 21 1 = some (.getfield 18, 3) := fet B21 (by decide +kernel) (Or.inr rfl)
theorem f21_4 : zft 21 4 = some (.iload_n 1, 1) := fet B21 (by decide +kernel) (Or.inr rfl)
theorem f21_5 : zft 21 5 = some (.iaload, 1) := fet B21 (by decide +kernel) (Or.inr rfl)
theorem f21_6 : zft 21 6 = some (.ifCond .ne 7, 3) := fet B21 (by decide +kernel) (Or.inr rfl)
theorem f21_9 : zft 21 9 = some (.iconst 2, 1) := fet B21 (by decide +kernel) (Or.inr rfl)
theorem f21_10 : zft 21 10 = some (.goto 4, 3) := fet B21 (by decide +kernel) (Or.inr rfl)
theorem f21_13 : zft 21 13 = some (.iconst 1, 1) := fet B21 (by decide +kernel) (Or.inr rfl)
theorem f21_14 : zft 21 14 = some (.ireturn, 1) := fet B21 (by decide +kernel) (Or.inr rfl)
theorem x21_0 : Rn S 21 0 [.ref q, v1] st I J Q = Rn S 21 1 [.ref q, v1] (.ref q :: st) I J Q := rL f21_0 rfl rfl
theorem x21_1_8 : Rn (zG xl) 21 1 [v0, v1] (.ref 8 :: st) I J Q = Rn (zG xl) 21 4 [v0, v1] (.ref 11 :: st) I J Q := (rGf f21_1 rfl).trans (tr_and rfl)
theorem x21_1_28 : Rn (zG xl) 21 1 [v0, v1] (.ref 28 :: st) I J Q = Rn (zG xl) 21 4 [v0, v1] (.ref 31 :: st) I J Q := (rGf f21_1 rfl).trans (tr_and rfl)
theorem x21_4 : Rn S 21 4 [v0, .int a] st I J Q = Rn S 21 5 [v0, .int a] (.int a :: st) I J Q := rL f21_4 rfl rfl
theorem x21_5 : Rn S 21 5 [v0, v1] (.int a :: .ref q :: st) I J Q = (zai S q a ∧ Rn S 21 6 [v0, v1] (.int (I q a.toNatClampNeg) :: st) I J Q) := rIal f21_5
theorem x21_6 : Rn S 21 6 [v0, v1] (.int a :: st) I J Q = if a = 0 then Rn S 21 9 [v0, v1] st I J Q else Rn S 21 13 [v0, v1] st I J Q := rIne f21_6 rfl rfl
theorem x21_9 : Rn S 21 9 [v0, v1] st I J Q = Rn S 21 10 [v0, v1] (.int 2 :: st) I J Q := rS f21_9 rfl
theorem x21_10 : Rn S 21 10 [v0, v1] st I J Q = Rn S 21 14 [v0, v1] st I J Q := rB f21_10 rfl rfl rfl
theorem x21_13 : Rn S 21 13 [v0, v1] st I J Q = Rn S 21 14 [v0, v1] (.int 1 :: st) I J Q := rS f21_13 rfl
theorem x21_14 : Rn S 21 14 [v0, v1] [.int a] I J Q = Q (some (.int a)) I J := rR f21_14 rfl rfl rfl rfl rfl
/-! X2.renew: 23 -/
theorem B23 : zB 23 = cX2_renew := rfl
theorem f23_0 : zft 23 0 = some (.aload_n 0, 1) := fet B23 (by decide +kernel) (Or.inr rfl)
theorem f23_1 : zft 23 1 = some (.iconst 0, 1) := fet B23 (by decide +kernel) (Or.inr rfl)
theorem f23_2 : zft 23 2 = some (.putfield 9, 3) := fet B23 (by decide +kernel) (Or.inr rfl)
theorem f23_5 : zft 23 5 = some (.aload_n 0, 1) := fet B23 (by decide +kernel) (Or.inr rfl)
theorem f23_6 : zft 23 6 = some (.iload_n 1, 1) := fet B23 (by decide +kernel) (Or.inr rfl)
theorem f23_7 : zft 23 7 = some (.putfield 19, 3) := fet B23 (by decide +kernel) (Or.inr rfl)
theorem f23_10 : zft 23 10 = some (.aload_n 0, 1) := fet B23 (by decide +kernel) (Or.inr rfl)
theorem f23_11 : zft 23 11 = some (.iload_n 2, 1) := fet B23 (by decide +kernel) (Or.inr rfl)
theorem f23_12 : zft 23 12 = some (.putfield 23, 3) := fet B23 (by decide +kernel) (Or.inr rfl)
theorem f23_15 : zft 23 15 = some (.aload_n 0, 1) := fet B23 (by decide +kernel) (Or.inr rfl)
theorem f23_16 : zft 23 16 = some (.getfield 15, 3) := fet B23 (by decide +kernel) (Or.inr rfl)
theorem f23_19 : zft 23 19 = some (.iconst 0, 1) := fet B23 (by decide +kernel) (Or.inr rfl)
theorem f23_20 : zft 23 20 = some (.invokestatic 26, 3) := fet B23 (by decide +kernel) (Or.inr rfl)
theorem f23_23 : zft 23 23 = some (.return_, 1) := fet B23 (by decide +kernel) (Or.inr rfl)
theorem x23_0 : Rn S 23 0 [.ref q, v1, v2] st I J Q = Rn S 23 1 [.ref q, v1, v2] (.ref q :: st) I J Q := rL f23_0 rfl rfl
theorem x23_1 : Rn S 23 1 [v0, v1, v2] st I J Q = Rn S 23 2 [v0, v1, v2] (.int 0 :: st) I J Q := rS f23_1 rfl
theorem x23_2_53 : Rn (zG xl) 23 2 [v0, v1, v2] (.int a :: .ref 53 :: st) I J Q = ((a = 0 ∨ a = 1) ∧ Rn (zG xl) 23 5 [v0, v1, v2] st (zr I 53 (upd (I 53) 0 a)) J Q) := (rPf f23_2 rfl).trans (tr_pfz rfl rfl rfl)
theorem x23_2_55 : Rn (zG xl) 23 2 [v0, v1, v2] (.int a :: .ref 55 :: st) I J Q = ((a = 0 ∨ a = 1) ∧ Rn (zG xl) 23 5 [v0, v1, v2] st (zr I 55 (upd (I 55) 0 a)) J Q) := (rPf f23_2 rfl).trans (tr_pfz rfl rfl rfl)
theorem x23_2_57 : Rn (zG xl) 23 2 [v0, v1, v2] (.int a :: .ref 57 :: st) I J Q = ((a = 0 ∨ a = 1) ∧ Rn (zG xl) 23 5 [v0, v1, v2] st (zr I 57 (upd (I 57) 0 a)) J Q) := (rPf f23_2 rfl).trans (tr_pfz rfl rfl rfl)
theorem x23_2_59 : Rn (zG xl) 23 2 [v0, v1, v2] (.int a :: .ref 59 :: st) I J Q = ((a = 0 ∨ a = 1) ∧ Rn (zG xl) 23 5 [v0, v1, v2] st (zr I 59 (upd (I 59) 0 a)) J Q) := (rPf f23_2 rfl).trans (tr_pfz rfl rfl rfl)
theorem x23_5 : Rn S 23 5 [.ref q, v1, v2] st I J Q = Rn S 23 6 [.ref q, v1, v2] (.ref q :: st) I J Q := rL f23_5 rfl rfl
theorem x23_6 : Rn S 23 6 [v0, .int a, v2] st I J Q = Rn S 23 7 [v0, .int a, v2] (.int a :: st) I J Q := rL f23_6 rfl rfl
theorem x23_7_53 : Rn (zG xl) 23 7 [v0, v1, v2] (.int a :: .ref 53 :: st) I J Q = Rn (zG xl) 23 10 [v0, v1, v2] st (zr I 53 (upd (I 53) 1 a)) J Q := (rPf f23_7 rfl).trans (tr_pf rfl rfl rfl)
theorem x23_7_55 : Rn (zG xl) 23 7 [v0, v1, v2] (.int a :: .ref 55 :: st) I J Q = Rn (zG xl) 23 10 [v0, v1, v2] st (zr I 55 (upd (I 55) 1 a)) J Q := (rPf f23_7 rfl).trans (tr_pf rfl rfl rfl)
theorem x23_7_57 : Rn (zG xl) 23 7 [v0, v1, v2] (.int a :: .ref 57 :: st) I J Q = Rn (zG xl) 23 10 [v0, v1, v2] st (zr I 57 (upd (I 57) 1 a)) J Q := (rPf f23_7 rfl).trans (tr_pf rfl rfl rfl)
theorem x23_7_59 : Rn (zG xl) 23 7 [v0, v1, v2] (.int a :: .ref 59 :: st) I J Q = Rn (zG xl) 23 10 [v0, v1, v2] st (zr I 59 (upd (I 59) 1 a)) J Q := (rPf f23_7 rfl).trans (tr_pf rfl rfl rfl)
theorem x23_10 : Rn S 23 10 [.ref q, v1, v2] st I J Q = Rn S 23 11 [.ref q, v1, v2] (.ref q :: st) I J Q := rL f23_10 rfl rfl
theorem x23_11 : Rn S 23 11 [v0, v1, .int a] st I J Q = Rn S 23 12 [v0, v1, .int a] (.int a :: st) I J Q := rL f23_11 rfl rfl
theorem x23_12_53 : Rn (zG xl) 23 12 [v0, v1, v2] (.int a :: .ref 53 :: st) I J Q = Rn (zG xl) 23 15 [v0, v1, v2] st (zr I 53 (upd (I 53) 2 a)) J Q := (rPf f23_12 rfl).trans (tr_pf rfl rfl rfl)
theorem x23_12_55 : Rn (zG xl) 23 12 [v0, v1, v2] (.int a :: .ref 55 :: st) I J Q = Rn (zG xl) 23 15 [v0, v1, v2] st (zr I 55 (upd (I 55) 2 a)) J Q := (rPf f23_12 rfl).trans (tr_pf rfl rfl rfl)
theorem x23_12_57 : Rn (zG xl) 23 12 [v0, v1, v2] (.int a :: .ref 57 :: st) I J Q = Rn (zG xl) 23 15 [v0, v1, v2] st (zr I 57 (upd (I 57) 2 a)) J Q := (rPf f23_12 rfl).trans (tr_pf rfl rfl rfl)
theorem x23_12_59 : Rn (zG xl) 23 12 [v0, v1, v2] (.int a :: .ref 59 :: st) I J Q = Rn (zG xl) 23 15 [v0, v1, v2] st (zr I 59 (upd (I 59) 2 a)) J Q := (rPf f23_12 rfl).trans (tr_pf rfl rfl rfl)
theorem x23_15 : Rn S 23 15 [.ref q, v1, v2] st I J Q = Rn S 23 16 [.ref q, v1, v2] (.ref q :: st) I J Q := rL f23_15 rfl rfl
theorem x23_16_53 : Rn (zG xl) 23 16 [v0, v1, v2] (.ref 53 :: st) I J Q = Rn (zG xl) 23 19 [v0, v1, v2] (.ref 54 :: st) I J Q := (rGf f23_16 rfl).trans (tr_and rfl)
theorem x23_16_55 : Rn (zG xl) 23 16 [v0, v1, v2] (.ref 55 :: st) I J Q = Rn (zG xl) 23 19 [v0, v1, v2] (.ref 56 :: st) I J Q := (rGf f23_16 rfl).trans (tr_and rfl)
theorem x23_16_57 : Rn (zG xl) 23 16 [v0, v1, v2] (.ref 57 :: st) I J Q = Rn (zG xl) 23 19 [v0, v1, v2] (.ref 58 :: st) I J Q := (rGf f23_16 rfl).trans (tr_and rfl)
theorem x23_16_59 : Rn (zG xl) 23 16 [v0, v1, v2] (.ref 59 :: st) I J Q = Rn (zG xl) 23 19 [v0, v1, v2] (.ref 60 :: st) I J Q := (rGf f23_16 rfl).trans (tr_and rfl)
theorem x23_19 : Rn S 23 19 [v0, v1, v2] st I J Q = Rn S 23 20 [v0, v1, v2] (.int 0 :: st) I J Q := rS f23_19 rfl
theorem x23_20 : Rn S 23 20 [v0, v1, v2] (.int a1 :: .ref q0 :: st) I J Q = (zcs st ≤ 8 ∧ Rn S 198 0 [.ref q0, .int a1, .null, .null] [] I J (fun v I' J' => Rn S 23 23 [v0, v1, v2] (v.toList ++ st) I' J' Q)) := rCS (As := [.ref q0, .int a1]) f23_20 rfl rfl rfl rfl (Nat.le_of_ble_eq_true rfl)
theorem x23_23 : Rn S 23 23 [v0, v1, v2] [] I J Q = Q none I J := rR f23_23 rfl rfl rfl rfl rfl
/-! X2.findingAt: 24 -/
theorem B24 : zB 24 = cX2_findingAt := rfl
theorem f24_0 : zft 24 0 = some (.aload_n 0, 1) := fet B24 (by decide +kernel) (Or.inr rfl)
theorem f24_1 : zft 24 1 = some (.getfield 9, 3) := fet B24 (by decide +kernel) (Or.inr rfl)
theorem f24_4 : zft 24 4 = some (.ifCond .eq 5, 3) := fet B24 (by decide +kernel) (Or.inr rfl)
theorem f24_7 : zft 24 7 = some (.iconst 1, 1) := fet B24 (by decide +kernel) (Or.inr rfl)
theorem f24_8 : zft 24 8 = some (.ireturn, 1) := fet B24 (by decide +kernel) (Or.inr rfl)
theorem f24_9 : zft 24 9 = some (.aload_n 0, 1) := fet B24 (by decide +kernel) (Or.inr rfl)
theorem f24_10 : zft 24 10 = some (.getfield 19, 3) := fet B24 (by decide +kernel) (Or.inr rfl)
theorem f24_13 : zft 24 13 = some (.iload_n 1, 1) := fet B24 (by decide +kernel) (Or.inr rfl)
theorem f24_14 : zft 24 14 = some (.if_icmp .eq 5, 3) := fet B24 (by decide +kernel) (Or.inr rfl)
theorem f24_17 : zft 24 17 = some (.iconst 3, 1) := fet B24 (by decide +kernel) (Or.inr rfl)
theorem f24_18 : zft 24 18 = some (.ireturn, 1) := fet B24 (by decide +kernel) (Or.inr rfl)
theorem f24_19 : zft 24 19 = some (.iload_n 2, 1) := fet B24 (by decide +kernel) (Or.inr rfl)
theorem f24_20 : zft 24 20 = some (.aload_n 0, 1) := fet B24 (by decide +kernel) (Or.inr rfl)
theorem f24_21 : zft 24 21 = some (.getfield 23, 3) := fet B24 (by decide +kernel) (Or.inr rfl)
theorem f24_24 : zft 24 24 = some (.invokestatic 32, 3) := fet B24 (by decide +kernel) (Or.inr rfl)
theorem f24_27 : zft 24 27 = some (.ifCond .eq 7, 3) := fet B24 (by decide +kernel) (Or.inr rfl)
theorem f24_30 : zft 24 30 = some (.iconst 0, 1) := fet B24 (by decide +kernel) (Or.inr rfl)
theorem f24_31 : zft 24 31 = some (.goto 4, 3) := fet B24 (by decide +kernel) (Or.inr rfl)
theorem f24_34 : zft 24 34 = some (.iconst 2, 1) := fet B24 (by decide +kernel) (Or.inr rfl)
theorem f24_35 : zft 24 35 = some (.ireturn, 1) := fet B24 (by decide +kernel) (Or.inr rfl)
theorem x24_0 : Rn S 24 0 [.ref q, v1, v2] st I J Q = Rn S 24 1 [.ref q, v1, v2] (.ref q :: st) I J Q := rL f24_0 rfl rfl
theorem x24_1_53 : Rn (zG xl) 24 1 [v0, v1, v2] (.ref 53 :: st) I J Q = Rn (zG xl) 24 4 [v0, v1, v2] (.int (I 53 0) :: st) I J Q := (rGf f24_1 rfl).trans (tr_and rfl)
theorem x24_1_55 : Rn (zG xl) 24 1 [v0, v1, v2] (.ref 55 :: st) I J Q = Rn (zG xl) 24 4 [v0, v1, v2] (.int (I 55 0) :: st) I J Q := (rGf f24_1 rfl).trans (tr_and rfl)
theorem x24_1_57 : Rn (zG xl) 24 1 [v0, v1, v2] (.ref 57 :: st) I J Q = Rn (zG xl) 24 4 [v0, v1, v2] (.int (I 57 0) :: st) I J Q := (rGf f24_1 rfl).trans (tr_and rfl)
theorem x24_1_59 : Rn (zG xl) 24 1 [v0, v1, v2] (.ref 59 :: st) I J Q = Rn (zG xl) 24 4 [v0, v1, v2] (.int (I 59 0) :: st) I J Q := (rGf f24_1 rfl).trans (tr_and rfl)
theorem x24_4 : Rn S 24 4 [v0, v1, v2] (.int a :: st) I J Q = if a = 0 then Rn S 24 9 [v0, v1, v2] st I J Q else Rn S 24 7 [v0, v1, v2] st I J Q := rIeq f24_4 rfl rfl
theorem x24_7 : Rn S 24 7 [v0, v1, v2] st I J Q = Rn S 24 8 [v0, v1, v2] (.int 1 :: st) I J Q := rS f24_7 rfl
theorem x24_8 : Rn S 24 8 [v0, v1, v2] [.int a] I J Q = Q (some (.int a)) I J := rR f24_8 rfl rfl rfl rfl rfl
theorem x24_9 : Rn S 24 9 [.ref q, v1, v2] st I J Q = Rn S 24 10 [.ref q, v1, v2] (.ref q :: st) I J Q := rL f24_9 rfl rfl
theorem x24_10_53 : Rn (zG xl) 24 10 [v0, v1, v2] (.ref 53 :: st) I J Q = Rn (zG xl) 24 13 [v0, v1, v2] (.int (I 53 1) :: st) I J Q := (rGf f24_10 rfl).trans (tr_and rfl)
theorem x24_10_55 : Rn (zG xl) 24 10 [v0, v1, v2] (.ref 55 :: st) I J Q = Rn (zG xl) 24 13 [v0, v1, v2] (.int (I 55 1) :: st) I J Q := (rGf f24_10 rfl).trans (tr_and rfl)
theorem x24_10_57 : Rn (zG xl) 24 10 [v0, v1, v2] (.ref 57 :: st) I J Q = Rn (zG xl) 24 13 [v0, v1, v2] (.int (I 57 1) :: st) I J Q := (rGf f24_10 rfl).trans (tr_and rfl)
theorem x24_10_59 : Rn (zG xl) 24 10 [v0, v1, v2] (.ref 59 :: st) I J Q = Rn (zG xl) 24 13 [v0, v1, v2] (.int (I 59 1) :: st) I J Q := (rGf f24_10 rfl).trans (tr_and rfl)
theorem x24_13 : Rn S 24 13 [v0, .int a, v2] st I J Q = Rn S 24 14 [v0, .int a, v2] (.int a :: st) I J Q := rL f24_13 rfl rfl
theorem x24_14 : Rn S 24 14 [v0, v1, v2] (.int b :: .int a :: st) I J Q = if a = b then Rn S 24 19 [v0, v1, v2] st I J Q else Rn S 24 17 [v0, v1, v2] st I J Q := rCeq f24_14 rfl rfl
theorem x24_17 : Rn S 24 17 [v0, v1, v2] st I J Q = Rn S 24 18 [v0, v1, v2] (.int 3 :: st) I J Q := rS f24_17 rfl
theorem x24_18 : Rn S 24 18 [v0, v1, v2] [.int a] I J Q = Q (some (.int a)) I J := rR f24_18 rfl rfl rfl rfl rfl
theorem x24_19 : Rn S 24 19 [v0, v1, .int a] st I J Q = Rn S 24 20 [v0, v1, .int a] (.int a :: st) I J Q := rL f24_19 rfl rfl
theorem x24_20 : Rn S 24 20 [.ref q, v1, v2] st I J Q = Rn S 24 21 [.ref q, v1, v2] (.ref q :: st) I J Q := rL f24_20 rfl rfl
theorem x24_21_53 : Rn (zG xl) 24 21 [v0, v1, v2] (.ref 53 :: st) I J Q = Rn (zG xl) 24 24 [v0, v1, v2] (.int (I 53 2) :: st) I J Q := (rGf f24_21 rfl).trans (tr_and rfl)
theorem x24_21_55 : Rn (zG xl) 24 21 [v0, v1, v2] (.ref 55 :: st) I J Q = Rn (zG xl) 24 24 [v0, v1, v2] (.int (I 55 2) :: st) I J Q := (rGf f24_21 rfl).trans (tr_and rfl)
theorem x24_21_57 : Rn (zG xl) 24 21 [v0, v1, v2] (.ref 57 :: st) I J Q = Rn (zG xl) 24 24 [v0, v1, v2] (.int (I 57 2) :: st) I J Q := (rGf f24_21 rfl).trans (tr_and rfl)
theorem x24_21_59 : Rn (zG xl) 24 21 [v0, v1, v2] (.ref 59 :: st) I J Q = Rn (zG xl) 24 24 [v0, v1, v2] (.int (I 59 2) :: st) I J Q := (rGf f24_21 rfl).trans (tr_and rfl)
theorem x24_24 : Rn S 24 24 [v0, v1, v2] (.int a1 :: .int a0 :: st) I J Q = (zcs st ≤ 8 ∧ Rn S 81 0 [.int a0, .int a1] [] I J (fun v I' J' => Rn S 24 27 [v0, v1, v2] (v.toList ++ st) I' J' Q)) := rCS (As := [.int a0, .int a1]) f24_24 rfl rfl rfl rfl (Nat.le_of_ble_eq_true rfl)
theorem x24_27 : Rn S 24 27 [v0, v1, v2] (.int a :: st) I J Q = if a = 0 then Rn S 24 34 [v0, v1, v2] st I J Q else Rn S 24 30 [v0, v1, v2] st I J Q := rIeq f24_27 rfl rfl
theorem x24_30 : Rn S 24 30 [v0, v1, v2] st I J Q = Rn S 24 31 [v0, v1, v2] (.int 0 :: st) I J Q := rS f24_30 rfl
theorem x24_31 : Rn S 24 31 [v0, v1, v2] st I J Q = Rn S 24 35 [v0, v1, v2] st I J Q := rB f24_31 rfl rfl rfl
theorem x24_34 : Rn S 24 34 [v0, v1, v2] st I J Q = Rn S 24 35 [v0, v1, v2] (.int 2 :: st) I J Q := rS f24_34 rfl
theorem x24_35 : Rn S 24 35 [v0, v1, v2] [.int a] I J Q = Q (some (.int a)) I J := rR f24_35 rfl rfl rfl rfl rfl
/-! X2.put: 25 -/
theorem B25 : zB 25 = cX2_put := rfl
theorem f25_0 : zft 25 0 = some (.aload_n 0, 1) := fet B25 (by decide +kernel) (Or.inr rfl)
theorem f25_1 : zft 25 1 = some (.getfield 19, 3) := fet B25 (by decide +kernel) (Or.inr rfl)
theorem f25_4 : zft 25 4 = some (.lookupswitch 50 #[(0, 28), (1, 39)], 28) := fet B25 (by decide +kernel) (Or.inl rfl)
theorem f25_32 : zft 25 32 = some (.aload_n 0, 1) := fet B25 (by decide +kernel) (Or.inr rfl)
theorem f25_33 : zft 25 33 = some (.getfield 15, 3) := fet B25 (by decide +kernel) (Or.inr rfl)
theorem f25_36 : zft 25 36 = some (.iload_n 1, 1) := fet B25 (by decide +kernel) (Or.inr rfl)
theorem f25_37 : zft 25 37 = some (.iload_n 2, 1) := fet B25 (by decide +kernel) (Or.inr rfl)
theorem f25_38 : zft 25 38 = some (.i2b, 1) := fet B25 (by decide +kernel) (Or.inr rfl)
theorem f25_39 : zft 25 39 = some (.iastore, 1) := fet B25 (by decide +kernel) (Or.inr rfl)
theorem f25_40 : zft 25 40 = some (.goto 21, 3) := fet B25 (by decide +kernel) (Or.inr rfl)
theorem f25_43 : zft 25 43 = some (.aload_n 0, 1) := fet B25 (by decide +kernel) (Or.inr rfl)
theorem f25_44 : zft 25 44 = some (.getfield 15, 3) := fet B25 (by decide +kernel) (Or.inr rfl)
theorem f25_47 : zft 25 47 = some (.iload_n 1, 1) := fet B25 (by decide +kernel) (Or.inr rfl)
theorem f25_48 : zft 25 48 = some (.iload_n 2, 1) := fet B25 (by decide +kernel) (Or.inr rfl)
theorem f25_49 : zft 25 49 = some (.i2s, 1) := fet B25 (by decide +kernel) (Or.inr rfl)
theorem f25_50 : zft 25 50 = some (.iastore, 1) := fet B25 (by decide +kernel) (Or.inr rfl)
theorem f25_51 : zft 25 51 = some (.goto 10, 3) := fet B25 (by decide +kernel) (Or.inr rfl)
theorem f25_54 : zft 25 54 = some (.aload_n 0, 1) := fet B25 (by decide +kernel) (Or.inr rfl)
theorem f25_55 : zft 25 55 = some (.getfield 15, 3) := fet B25 (by decide +kernel) (Or.inr rfl)
theorem f25_58 : zft 25 58 = some (.iload_n 1, 1) := fet B25 (by decide +kernel) (Or.inr rfl)
theorem f25_59 : zft 25 59 = some (.iload_n 2, 1) := fet B25 (by decide +kernel) (Or.inr rfl)
theorem f25_60 : zft 25 60 = some (.iastore, 1) := fet B25 (by decide +kernel) (Or.inr rfl)
theorem f25_61 : zft 25 61 = some (.return_, 1) := fet B25 (by decide +kernel) (Or.inr rfl)
theorem x25_0 : Rn S 25 0 [.ref q, v1, v2] st I J Q = Rn S 25 1 [.ref q, v1, v2] (.ref q :: st) I J Q := rL f25_0 rfl rfl
theorem x25_1_53 : Rn (zG xl) 25 1 [v0, v1, v2] (.ref 53 :: st) I J Q = Rn (zG xl) 25 4 [v0, v1, v2] (.int (I 53 1) :: st) I J Q := (rGf f25_1 rfl).trans (tr_and rfl)
theorem x25_1_55 : Rn (zG xl) 25 1 [v0, v1, v2] (.ref 55 :: st) I J Q = Rn (zG xl) 25 4 [v0, v1, v2] (.int (I 55 1) :: st) I J Q := (rGf f25_1 rfl).trans (tr_and rfl)
theorem x25_1_57 : Rn (zG xl) 25 1 [v0, v1, v2] (.ref 57 :: st) I J Q = Rn (zG xl) 25 4 [v0, v1, v2] (.int (I 57 1) :: st) I J Q := (rGf f25_1 rfl).trans (tr_and rfl)
theorem x25_1_59 : Rn (zG xl) 25 1 [v0, v1, v2] (.ref 59 :: st) I J Q = Rn (zG xl) 25 4 [v0, v1, v2] (.int (I 59 1) :: st) I J Q := (rGf f25_1 rfl).trans (tr_and rfl)
theorem x25_4 : Rn S 25 4 [v0, v1, v2] (.int a :: st) I J Q = if a = 0 then Rn S 25 32 [v0, v1, v2] st I J Q else if a = 1 then Rn S 25 43 [v0, v1, v2] st I J Q else Rn S 25 54 [v0, v1, v2] st I J Q := rLk f25_4 rfl rfl rfl
theorem x25_32 : Rn S 25 32 [.ref q, v1, v2] st I J Q = Rn S 25 33 [.ref q, v1, v2] (.ref q :: st) I J Q := rL f25_32 rfl rfl
theorem x25_33_53 : Rn (zG xl) 25 33 [v0, v1, v2] (.ref 53 :: st) I J Q = Rn (zG xl) 25 36 [v0, v1, v2] (.ref 54 :: st) I J Q := (rGf f25_33 rfl).trans (tr_and rfl)
theorem x25_33_55 : Rn (zG xl) 25 33 [v0, v1, v2] (.ref 55 :: st) I J Q = Rn (zG xl) 25 36 [v0, v1, v2] (.ref 56 :: st) I J Q := (rGf f25_33 rfl).trans (tr_and rfl)
theorem x25_33_57 : Rn (zG xl) 25 33 [v0, v1, v2] (.ref 57 :: st) I J Q = Rn (zG xl) 25 36 [v0, v1, v2] (.ref 58 :: st) I J Q := (rGf f25_33 rfl).trans (tr_and rfl)
theorem x25_33_59 : Rn (zG xl) 25 33 [v0, v1, v2] (.ref 59 :: st) I J Q = Rn (zG xl) 25 36 [v0, v1, v2] (.ref 60 :: st) I J Q := (rGf f25_33 rfl).trans (tr_and rfl)
theorem x25_36 : Rn S 25 36 [v0, .int a, v2] st I J Q = Rn S 25 37 [v0, .int a, v2] (.int a :: st) I J Q := rL f25_36 rfl rfl
theorem x25_37 : Rn S 25 37 [v0, v1, .int a] st I J Q = Rn S 25 38 [v0, v1, .int a] (.int a :: st) I J Q := rL f25_37 rfl rfl
theorem x25_38 : Rn S 25 38 [v0, v1, v2] (.int a :: st) I J Q = Rn S 25 39 [v0, v1, v2] (.int a.toInt8.toInt32 :: st) I J Q := rS f25_38 rfl
theorem x25_39 : Rn S 25 39 [v0, v1, v2] (.int b :: .int a :: .ref q :: st) I J Q = (zas S q a ∧ Rn S 25 40 [v0, v1, v2] st (zr I q (upd (I q) a.toNatClampNeg b)) J Q) := rIas f25_39
theorem x25_40 : Rn S 25 40 [v0, v1, v2] st I J Q = Rn S 25 61 [v0, v1, v2] st I J Q := rB f25_40 rfl rfl rfl
theorem x25_43 : Rn S 25 43 [.ref q, v1, v2] st I J Q = Rn S 25 44 [.ref q, v1, v2] (.ref q :: st) I J Q := rL f25_43 rfl rfl
theorem x25_44_53 : Rn (zG xl) 25 44 [v0, v1, v2] (.ref 53 :: st) I J Q = Rn (zG xl) 25 47 [v0, v1, v2] (.ref 54 :: st) I J Q := (rGf f25_44 rfl).trans (tr_and rfl)
theorem x25_44_55 : Rn (zG xl) 25 44 [v0, v1, v2] (.ref 55 :: st) I J Q = Rn (zG xl) 25 47 [v0, v1, v2] (.ref 56 :: st) I J Q := (rGf f25_44 rfl).trans (tr_and rfl)
theorem x25_44_57 : Rn (zG xl) 25 44 [v0, v1, v2] (.ref 57 :: st) I J Q = Rn (zG xl) 25 47 [v0, v1, v2] (.ref 58 :: st) I J Q := (rGf f25_44 rfl).trans (tr_and rfl)
theorem x25_44_59 : Rn (zG xl) 25 44 [v0, v1, v2] (.ref 59 :: st) I J Q = Rn (zG xl) 25 47 [v0, v1, v2] (.ref 60 :: st) I J Q := (rGf f25_44 rfl).trans (tr_and rfl)
theorem x25_47 : Rn S 25 47 [v0, .int a, v2] st I J Q = Rn S 25 48 [v0, .int a, v2] (.int a :: st) I J Q := rL f25_47 rfl rfl
theorem x25_48 : Rn S 25 48 [v0, v1, .int a] st I J Q = Rn S 25 49 [v0, v1, .int a] (.int a :: st) I J Q := rL f25_48 rfl rfl
theorem x25_49 : Rn S 25 49 [v0, v1, v2] (.int a :: st) I J Q = Rn S 25 50 [v0, v1, v2] (.int a.toInt16.toInt32 :: st) I J Q := rS f25_49 rfl
theorem x25_50 : Rn S 25 50 [v0, v1, v2] (.int b :: .int a :: .ref q :: st) I J Q = (zas S q a ∧ Rn S 25 51 [v0, v1, v2] st (zr I q (upd (I q) a.toNatClampNeg b)) J Q) := rIas f25_50
theorem x25_51 : Rn S 25 51 [v0, v1, v2] st I J Q = Rn S 25 61 [v0, v1, v2] st I J Q := rB f25_51 rfl rfl rfl
theorem x25_54 : Rn S 25 54 [.ref q, v1, v2] st I J Q = Rn S 25 55 [.ref q, v1, v2] (.ref q :: st) I J Q := rL f25_54 rfl rfl
theorem x25_55_53 : Rn (zG xl) 25 55 [v0, v1, v2] (.ref 53 :: st) I J Q = Rn (zG xl) 25 58 [v0, v1, v2] (.ref 54 :: st) I J Q := (rGf f25_55 rfl).trans (tr_and rfl)
theorem x25_55_55 : Rn (zG xl) 25 55 [v0, v1, v2] (.ref 55 :: st) I J Q = Rn (zG xl) 25 58 [v0, v1, v2] (.ref 56 :: st) I J Q := (rGf f25_55 rfl).trans (tr_and rfl)
theorem x25_55_57 : Rn (zG xl) 25 55 [v0, v1, v2] (.ref 57 :: st) I J Q = Rn (zG xl) 25 58 [v0, v1, v2] (.ref 58 :: st) I J Q := (rGf f25_55 rfl).trans (tr_and rfl)
theorem x25_55_59 : Rn (zG xl) 25 55 [v0, v1, v2] (.ref 59 :: st) I J Q = Rn (zG xl) 25 58 [v0, v1, v2] (.ref 60 :: st) I J Q := (rGf f25_55 rfl).trans (tr_and rfl)
theorem x25_58 : Rn S 25 58 [v0, .int a, v2] st I J Q = Rn S 25 59 [v0, .int a, v2] (.int a :: st) I J Q := rL f25_58 rfl rfl
theorem x25_59 : Rn S 25 59 [v0, v1, .int a] st I J Q = Rn S 25 60 [v0, v1, .int a] (.int a :: st) I J Q := rL f25_59 rfl rfl
theorem x25_60 : Rn S 25 60 [v0, v1, v2] (.int b :: .int a :: .ref q :: st) I J Q = (zas S q a ∧ Rn S 25 61 [v0, v1, v2] st (zr I q (upd (I q) a.toNatClampNeg b)) J Q) := rIas f25_60
theorem x25_61 : Rn S 25 61 [v0, v1, v2] [] I J Q = Q none I J := rR f25_61 rfl rfl rfl rfl rfl
/-! X2.holds: 26 -/
theorem B26 : zB 26 = cX2_holds := rfl
theorem f26_0 : zft 26 0 = some (.iload_n 1, 1) := fet B26 (by decide +kernel) (Or.inr rfl)
theorem f26_1 : zft 26 1 = some (.ifCond .lt 21, 3) := fet B26 (by decide +kernel) (Or.inr rfl)
theorem f26_4 : zft 26 4 = some (.iload_n 2, 1) := fet B26 (by decide +kernel) (Or.inr rfl)
theorem f26_5 : zft 26 5 = some (.ifCond .lt 17, 3) := fet B26 (by decide +kernel) (Or.inr rfl)
theorem f26_8 : zft 26 8 = some (.iload_n 2, 1) := fet B26 (by decide +kernel) (Or.inr rfl)
theorem f26_9 : zft 26 9 = some (.aload_n 0, 1) := fet B26 (by decide +kernel) (Or.inr rfl)
theorem f26_10 : zft 26 10 = some (.getfield 23, 3) := fet B26 (by decide +kernel) (Or.inr rfl)
theorem f26_13 : zft 26 13 = some (.iload_n 1, 1) := fet B26 (by decide +kernel) (Or.inr rfl)
theorem f26_14 : zft 26 14 = some (.isub, 1) := fet B26 (by decide +kernel) (Or.inr rfl)
theorem f26_15 : zft 26 15 = some (.if_icmp .gt 7, 3) := fet B26 (by decide +kernel) (Or.inr rfl)
theorem f26_18 : zft 26 18 = some (.iconst 1, 1) := fet B26 (by decide +kernel) (Or.inr rfl)
theorem f26_19 : zft 26 19 = some (.goto 4, 3) := fet B26 (by decide +kernel) (Or.inr rfl)
theorem f26_22 : zft 26 22 = some (.iconst 0, 1) := fet B26 (by decide +kernel) (Or.inr rfl)
theorem f26_23 : zft 26 23 = some (.ireturn, 1) := fet B26 (by decide +kernel) (Or.inr rfl)
theorem x26_0 : Rn S 26 0 [v0, .int a, v2] st I J Q = Rn S 26 1 [v0, .int a, v2] (.int a :: st) I J Q := rL f26_0 rfl rfl
theorem x26_1 : Rn S 26 1 [v0, v1, v2] (.int a :: st) I J Q = if a < 0 then Rn S 26 22 [v0, v1, v2] st I J Q else Rn S 26 4 [v0, v1, v2] st I J Q := rIlt f26_1 rfl rfl
theorem x26_4 : Rn S 26 4 [v0, v1, .int a] st I J Q = Rn S 26 5 [v0, v1, .int a] (.int a :: st) I J Q := rL f26_4 rfl rfl
theorem x26_5 : Rn S 26 5 [v0, v1, v2] (.int a :: st) I J Q = if a < 0 then Rn S 26 22 [v0, v1, v2] st I J Q else Rn S 26 8 [v0, v1, v2] st I J Q := rIlt f26_5 rfl rfl
theorem x26_8 : Rn S 26 8 [v0, v1, .int a] st I J Q = Rn S 26 9 [v0, v1, .int a] (.int a :: st) I J Q := rL f26_8 rfl rfl
theorem x26_9 : Rn S 26 9 [.ref q, v1, v2] st I J Q = Rn S 26 10 [.ref q, v1, v2] (.ref q :: st) I J Q := rL f26_9 rfl rfl
theorem x26_10_53 : Rn (zG xl) 26 10 [v0, v1, v2] (.ref 53 :: st) I J Q = Rn (zG xl) 26 13 [v0, v1, v2] (.int (I 53 2) :: st) I J Q := (rGf f26_10 rfl).trans (tr_and rfl)
theorem x26_10_55 : Rn (zG xl) 26 10 [v0, v1, v2] (.ref 55 :: st) I J Q = Rn (zG xl) 26 13 [v0, v1, v2] (.int (I 55 2) :: st) I J Q := (rGf f26_10 rfl).trans (tr_and rfl)
theorem x26_10_57 : Rn (zG xl) 26 10 [v0, v1, v2] (.ref 57 :: st) I J Q = Rn (zG xl) 26 13 [v0, v1, v2] (.int (I 57 2) :: st) I J Q := (rGf f26_10 rfl).trans (tr_and rfl)
theorem x26_10_59 : Rn (zG xl) 26 10 [v0, v1, v2] (.ref 59 :: st) I J Q = Rn (zG xl) 26 13 [v0, v1, v2] (.int (I 59 2) :: st) I J Q := (rGf f26_10 rfl).trans (tr_and rfl)
theorem x26_13 : Rn S 26 13 [v0, .int a, v2] st I J Q = Rn S 26 14 [v0, .int a, v2] (.int a :: st) I J Q := rL f26_13 rfl rfl
theorem x26_14 : Rn S 26 14 [v0, v1, v2] (.int b :: .int a :: st) I J Q = Rn S 26 15 [v0, v1, v2] (.int (a - b) :: st) I J Q := rS f26_14 rfl
theorem x26_15 : Rn S 26 15 [v0, v1, v2] (.int b :: .int a :: st) I J Q = if b < a then Rn S 26 22 [v0, v1, v2] st I J Q else Rn S 26 18 [v0, v1, v2] st I J Q := rCgt f26_15 rfl rfl
theorem x26_18 : Rn S 26 18 [v0, v1, v2] st I J Q = Rn S 26 19 [v0, v1, v2] (.int 1 :: st) I J Q := rS f26_18 rfl
theorem x26_19 : Rn S 26 19 [v0, v1, v2] st I J Q = Rn S 26 23 [v0, v1, v2] st I J Q := rB f26_19 rfl rfl rfl
theorem x26_22 : Rn S 26 22 [v0, v1, v2] st I J Q = Rn S 26 23 [v0, v1, v2] (.int 0 :: st) I J Q := rS f26_22 rfl
theorem x26_23 : Rn S 26 23 [v0, v1, v2] [.int a] I J Q = ((a = 0 ∨ a = 1) ∧ Q (some (.int a)) I J) := rRZ f26_23 (Or.inl rfl)
/-! X3.append: 28 -/
theorem B28 : zB 28 = cX3_append := rfl
theorem f28_0 : zft 28 0 = some (.aload_n 0, 1) := fet B28 (by decide +kernel) (Or.inr rfl)
theorem f28_1 : zft 28 1 = some (.getfield 9, 3) := fet B28 (by decide +kernel) (Or.inr rfl)
theorem f28_4 : zft 28 4 = some (.aload_n 0, 1) := fet B28 (by decide +kernel) (Or.inr rfl)
theorem f28_5 : zft 28 5 = some (.getfield 21, 3) := fet B28 (by decide +kernel) (Or.inr rfl)
theorem f28_8 : zft 28 8 = some (.iload_n 1, 1) := fet B28 (by decide +kernel) (Or.inr rfl)
theorem f28_9 : zft 28 9 = some (.iastore, 1) := fet B28 (by decide +kernel) (Or.inr rfl)
theorem f28_10 : zft 28 10 = some (.aload_n 0, 1) := fet B28 (by decide +kernel) (Or.inr rfl)
theorem f28_11 : zft 28 11 = some (.getfield 15, 3) := fet B28 (by decide +kernel) (Or.inr rfl)
theorem f28_14 : zft 28 14 = some (.aload_n 0, 1) := fet B28 (by decide +kernel) (Or.inr rfl)
theorem f28_15 : zft 28 15 = some (.getfield 21, 3) := fet B28 (by decide +kernel) (Or.inr rfl)
theorem f28_18 : zft 28 18 = some (.iload_n 2, 1) := fet B28 (by decide +kernel) (Or.inr rfl)
theorem f28_19 : zft 28 19 = some (.iastore, 1) := fet B28 (by decide +kernel) (Or.inr rfl)
theorem f28_20 : zft 28 20 = some (.aload_n 0, 1) := fet B28 (by decide +kernel) (Or.inr rfl)
theorem f28_21 : zft 28 21 = some (.getfield 18, 3) := fet B28 (by decide +kernel) (Or.inr rfl)
theorem f28_24 : zft 28 24 = some (.aload_n 0, 1) := fet B28 (by decide +kernel) (Or.inr rfl)
theorem f28_25 : zft 28 25 = some (.getfield 21, 3) := fet B28 (by decide +kernel) (Or.inr rfl)
theorem f28_28 : zft 28 28 = some (.iload_n 3, 1) := fet B28 (by decide +kernel) (Or.inr rfl)
theorem f28_29 : zft 28 29 = some (.iastore, 1) := fet B28 (by decide +kernel) (Or.inr rfl)
theorem f28_30 : zft 28 30 = some (.aload_n 0, 1) := fet B28 (by decide +kernel) (Or.inr rfl)
theorem f28_31 : zft 28 31 = some (.dup, 1) := fet B28 (by decide +kernel) (Or.inr rfl)
theorem f28_32 : zft 28 32 = some (.getfield 21, 3) := fet B28 (by decide +kernel) (Or.inr rfl)
theorem f28_35 : zft 28 35 = some (.iconst 1, 1) := fet B28 (by decide +kernel) (Or.inr rfl)
theorem f28_36 : zft 28 36 = some (.iadd, 1) := fet B28 (by decide +kernel) (Or.inr rfl)
theorem f28_37 : zft 28 37 = some (.putfield 21, 3) := fet B28 (by decide +kernel) (Or.inr rfl)
theorem f28_40 : zft 28 40 = some (.return_, 1) := fet B28 (by decide +kernel) (Or.inr rfl)
theorem x28_0 : Rn S 28 0 [.ref q, v1, v2, v3] st I J Q = Rn S 28 1 [.ref q, v1, v2, v3] (.ref q :: st) I J Q := rL f28_0 rfl rfl
theorem x28_1_48 : Rn (zG xl) 28 1 [v0, v1, v2, v3] (.ref 48 :: st) I J Q = Rn (zG xl) 28 4 [v0, v1, v2, v3] (.ref 49 :: st) I J Q := (rGf f28_1 rfl).trans (tr_and rfl)
theorem x28_4 : Rn S 28 4 [.ref q, v1, v2, v3] st I J Q = Rn S 28 5 [.ref q, v1, v2, v3] (.ref q :: st) I J Q := rL f28_4 rfl rfl
theorem x28_5_48 : Rn (zG xl) 28 5 [v0, v1, v2, v3] (.ref 48 :: st) I J Q = Rn (zG xl) 28 8 [v0, v1, v2, v3] (.int (I 48 0) :: st) I J Q := (rGf f28_5 rfl).trans (tr_and rfl)
theorem x28_8 : Rn S 28 8 [v0, .int a, v2, v3] st I J Q = Rn S 28 9 [v0, .int a, v2, v3] (.int a :: st) I J Q := rL f28_8 rfl rfl
theorem x28_9 : Rn S 28 9 [v0, v1, v2, v3] (.int b :: .int a :: .ref q :: st) I J Q = (zas S q a ∧ Rn S 28 10 [v0, v1, v2, v3] st (zr I q (upd (I q) a.toNatClampNeg b)) J Q) := rIas f28_9
theorem x28_10 : Rn S 28 10 [.ref q, v1, v2, v3] st I J Q = Rn S 28 11 [.ref q, v1, v2, v3] (.ref q :: st) I J Q := rL f28_10 rfl rfl
theorem x28_11_48 : Rn (zG xl) 28 11 [v0, v1, v2, v3] (.ref 48 :: st) I J Q = Rn (zG xl) 28 14 [v0, v1, v2, v3] (.ref 50 :: st) I J Q := (rGf f28_11 rfl).trans (tr_and rfl)
theorem x28_14 : Rn S 28 14 [.ref q, v1, v2, v3] st I J Q = Rn S 28 15 [.ref q, v1, v2, v3] (.ref q :: st) I J Q := rL f28_14 rfl rfl
theorem x28_15_48 : Rn (zG xl) 28 15 [v0, v1, v2, v3] (.ref 48 :: st) I J Q = Rn (zG xl) 28 18 [v0, v1, v2, v3] (.int (I 48 0) :: st) I J Q := (rGf f28_15 rfl).trans (tr_and rfl)
theorem x28_18 : Rn S 28 18 [v0, v1, .int a, v3] st I J Q = Rn S 28 19 [v0, v1, .int a, v3] (.int a :: st) I J Q := rL f28_18 rfl rfl
theorem x28_19 : Rn S 28 19 [v0, v1, v2, v3] (.int b :: .int a :: .ref q :: st) I J Q = (zas S q a ∧ Rn S 28 20 [v0, v1, v2, v3] st (zr I q (upd (I q) a.toNatClampNeg b)) J Q) := rIas f28_19
theorem x28_20 : Rn S 28 20 [.ref q, v1, v2, v3] st I J Q = Rn S 28 21 [.ref q, v1, v2, v3] (.ref q :: st) I J Q := rL f28_20 rfl rfl
theorem x28_21_48 : Rn (zG xl) 28 21 [v0, v1, v2, v3] (.ref 48 :: st) I J Q = Rn (zG xl) 28 24 [v0, v1, v2, v3] (.ref 51 :: st) I J Q := (rGf f28_21 rfl).trans (tr_and rfl)
theorem x28_24 : Rn S 28 24 [.ref q, v1, v2, v3] st I J Q = Rn S 28 25 [.ref q, v1, v2, v3] (.ref q :: st) I J Q := rL f28_24 rfl rfl
theorem x28_25_48 : Rn (zG xl) 28 25 [v0, v1, v2, v3] (.ref 48 :: st) I J Q = Rn (zG xl) 28 28 [v0, v1, v2, v3] (.int (I 48 0) :: st) I J Q := (rGf f28_25 rfl).trans (tr_and rfl)
theorem x28_28 : Rn S 28 28 [v0, v1, v2, .int a] st I J Q = Rn S 28 29 [v0, v1, v2, .int a] (.int a :: st) I J Q := rL f28_28 rfl rfl
theorem x28_29 : Rn S 28 29 [v0, v1, v2, v3] (.int b :: .int a :: .ref q :: st) I J Q = (zas S q a ∧ Rn S 28 30 [v0, v1, v2, v3] st (zr I q (upd (I q) a.toNatClampNeg b)) J Q) := rIas f28_29
theorem x28_30 : Rn S 28 30 [.ref q, v1, v2, v3] st I J Q = Rn S 28 31 [.ref q, v1, v2, v3] (.ref q :: st) I J Q := rL f28_30 rfl rfl
theorem x28_31i : Rn S 28 31 [v0, v1, v2, v3] (.int a :: st) I J Q = Rn S 28 32 [v0, v1, v2, v3] (.int a :: .int a :: st) I J Q := rS f28_31 rfl
theorem x28_31r : Rn S 28 31 [v0, v1, v2, v3] (.ref q :: st) I J Q = Rn S 28 32 [v0, v1, v2, v3] (.ref q :: .ref q :: st) I J Q := rS f28_31 rfl
theorem x28_32_48 : Rn (zG xl) 28 32 [v0, v1, v2, v3] (.ref 48 :: st) I J Q = Rn (zG xl) 28 35 [v0, v1, v2, v3] (.int (I 48 0) :: st) I J Q := (rGf f28_32 rfl).trans (tr_and rfl)
theorem x28_35 : Rn S 28 35 [v0, v1, v2, v3] st I J Q = Rn S 28 36 [v0, v1, v2, v3] (.int 1 :: st) I J Q := rS f28_35 rfl
theorem x28_36 : Rn S 28 36 [v0, v1, v2, v3] (.int b :: .int a :: st) I J Q = Rn S 28 37 [v0, v1, v2, v3] (.int (a + b) :: st) I J Q := rS f28_36 rfl
theorem x28_37_48 : Rn (zG xl) 28 37 [v0, v1, v2, v3] (.int a :: .ref 48 :: st) I J Q = Rn (zG xl) 28 40 [v0, v1, v2, v3] st (zr I 48 (upd (I 48) 0 a)) J Q := (rPf f28_37 rfl).trans (tr_pf rfl rfl rfl)
theorem x28_40 : Rn S 28 40 [v0, v1, v2, v3] [] I J Q = Q none I J := rR f28_40 rfl rfl rfl rfl rfl
/-! X3.comeOut: 29 -/
theorem B29 : zB 29 = cX3_comeOut := rfl
theorem f29_0 : zft 29 0 = some (.iconst 0, 1) := fet B29 (by decide +kernel) (Or.inr rfl)
theorem f29_1 : zft 29 1 = some (.istore_n 2, 1) := fet B29 (by decide +kernel) (Or.inr rfl)
theorem f29_2 : zft 29 2 = some (.iload_n 2, 1) := fet B29 (by decide +kernel) (Or.inr rfl)
theorem f29_3 : zft 29 3 = some (.aload_n 0, 1) := fet B29 (by decide +kernel) (Or.inr rfl)
theorem f29_4 : zft 29 4 = some (.getfield 21, 3) := fet B29 (by decide +kernel) (Or.inr rfl)
theorem f29_7 : zft 29 7 = some (.if_icmp .ge 68, 3) := fet B29 (by decide +kernel) (Or.inr rfl)
theorem f29_10 : zft 29 10 = some (.aload_n 0, 1) := fet B29 (by decide +kernel) (Or.inr rfl)
theorem f29_11 : zft 29 11 = some (.getfield 15, 3) := fet B29 (by decide +kernel) (Or.inr rfl)
theorem f29_14 : zft 29 14 = some (.iload_n 2, 1) := fet B29 (by decide +kernel) (Or.inr rfl)
theorem f29_15 : zft 29 15 = some (.iaload, 1) := fet B29 (by decide +kernel) (Or.inr rfl)
theorem f29_16 : zft 29 16 = some (.aload_n 1, 1) := fet B29 (by decide +kernel) (Or.inr rfl)
theorem f29_17 : zft 29 17 = some (.getfield 25, 3) := fet B29 (by decide +kernel) (Or.inr rfl)
theorem f29_20 : zft 29 20 = some (.if_icmp .ge 7, 3) := fet B29 (by decide +kernel) (Or.inr rfl)
theorem f29_23 : zft 29 23 = some (.iconst 1, 1) := fet B29 (by decide +kernel) (Or.inr rfl)
theorem f29_24 : zft 29 24 = some (.goto 4, 3) := fet B29 (by decide +kernel) (Or.inr rfl)
theorem f29_27 : zft 29 27 = some (.iconst 0, 1) := fet B29 (by decide +kernel) (Or.inr rfl)
theorem f29_28 : zft 29 28 = some (.istore_n 3, 1) := fet B29 (by decide +kernel) (Or.inr rfl)
theorem f29_29 : zft 29 29 = some (.iload_n 3, 1) := fet B29 (by decide +kernel) (Or.inr rfl)
theorem f29_30 : zft 29 30 = some (.ifCond .eq 37, 3) := fet B29 (by decide +kernel) (Or.inr rfl)
theorem f29_33 : zft 29 33 = some (.aload_n 1, 1) := fet B29 (by decide +kernel) (Or.inr rfl)
theorem f29_34 : zft 29 34 = some (.aload_n 0, 1) := fet B29 (by decide +kernel) (Or.inr rfl)
theorem f29_35 : zft 29 35 = some (.getfield 15, 3) := fet B29 (by decide +kernel) (Or.inr rfl)
theorem f29_38 : zft 29 38 = some (.iload_n 2, 1) := fet B29 (by decide +kernel) (Or.inr rfl)
theorem f29_39 : zft 29 39 = some (.iaload, 1) := fet B29 (by decide +kernel) (Or.inr rfl)
theorem f29_40 : zft 29 40 = some (.aload_n 0, 1) := fet B29 (by decide +kernel) (Or.inr rfl)
theorem f29_41 : zft 29 41 = some (.getfield 9, 3) := fet B29 (by decide +kernel) (Or.inr rfl)
theorem f29_44 : zft 29 44 = some (.iload_n 2, 1) := fet B29 (by decide +kernel) (Or.inr rfl)
theorem f29_45 : zft 29 45 = some (.iaload, 1) := fet B29 (by decide +kernel) (Or.inr rfl)
theorem f29_46 : zft 29 46 = some (.invokevirtual 29, 3) := fet B29 (by decide +kernel) (Or.inr rfl)
theorem f29_49 : zft 29 49 = some (.aload_n 0, 1) := fet B29 (by decide +kernel) (Or.inr rfl)
theorem f29_50 : zft 29 50 = some (.getfield 18, 3) := fet B29 (by decide +kernel) (Or.inr rfl)
theorem f29_53 : zft 29 53 = some (.iload_n 2, 1) := fet B29 (by decide +kernel) (Or.inr rfl)
theorem f29_54 : zft 29 54 = some (.iaload, 1) := fet B29 (by decide +kernel) (Or.inr rfl)
theorem f29_55 : zft 29 55 = some (.iconst 1, 1) := fet B29 (by decide +kernel) (Or.inr rfl)
theorem f29_56 : zft 29 56 = some (.if_icmp .ne 7, 3) := fet B29 (by decide +kernel) (Or.inr rfl)
theorem f29_59 : zft 29 59 = some (.iconst 1, 1) := fet B29 (by decide +kernel) (Or.inr rfl)
theorem f29_60 : zft 29 60 = some (.goto 4, 3) := fet B29 (by decide +kernel) (Or.inr rfl)
theorem f29_63 : zft 29 63 = some (.iconst 0, 1) := fet B29 (by decide +kernel) (Or.inr rfl)
theorem f29_64 : zft 29 64 = some (.if_icmp .eq 5, 3) := fet B29 (by decide +kernel) (Or.inr rfl)
theorem f29_67 : zft 29 67 = some (.iconst 0, 1) := fet B29 (by decide +kernel) (Or.inr rfl)
theorem f29_68 : zft 29 68 = some (.ireturn, 1) := fet B29 (by decide +kernel) (Or.inr rfl)
theorem f29_69 : zft 29 69 = some (.iinc 2 1, 3) := fet B29 (by decide +kernel) (Or.inr rfl)
theorem f29_72 : zft 29 72 = some (.goto (-70), 3) := fet B29 (by decide +kernel) (Or.inr rfl)
theorem f29_75 : zft 29 75 = some (.iconst 1, 1) := fet B29 (by decide +kernel) (Or.inr rfl)
theorem f29_76 : zft 29 76 = some (.ireturn, 1) := fet B29 (by decide +kernel) (Or.inr rfl)
theorem x29_0 : Rn S 29 0 [v0, v1, v2, v3] st I J Q = Rn S 29 1 [v0, v1, v2, v3] (.int 0 :: st) I J Q := rS f29_0 rfl
theorem x29_1 : Rn S 29 1 [v0, v1, v2, v3] (.int a :: st) I J Q = Rn S 29 2 [v0, zkl v1, .int a, v3] st I J Q := rL f29_1 rfl rfl
theorem h29_2 : Rn S 29 2 [v0, v1, .int a, v3] st I J Q = Rn S 29 3 [v0, v1, .int a, v3] (.int a :: st) I J Q := rL f29_2 rfl rfl
theorem x29_3 : Rn S 29 3 [.ref q, v1, v2, v3] st I J Q = Rn S 29 4 [.ref q, v1, v2, v3] (.ref q :: st) I J Q := rL f29_3 rfl rfl
theorem x29_4_48 : Rn (zG xl) 29 4 [v0, v1, v2, v3] (.ref 48 :: st) I J Q = Rn (zG xl) 29 7 [v0, v1, v2, v3] (.int (I 48 0) :: st) I J Q := (rGf f29_4 rfl).trans (tr_and rfl)
theorem x29_7 : Rn S 29 7 [v0, v1, v2, v3] (.int b :: .int a :: st) I J Q = if a < b then Rn S 29 10 [v0, v1, v2, v3] st I J Q else Rn S 29 75 [v0, v1, v2, v3] st I J Q := rCge f29_7 rfl rfl
theorem x29_10 : Rn S 29 10 [.ref q, v1, v2, v3] st I J Q = Rn S 29 11 [.ref q, v1, v2, v3] (.ref q :: st) I J Q := rL f29_10 rfl rfl
theorem x29_11_48 : Rn (zG xl) 29 11 [v0, v1, v2, v3] (.ref 48 :: st) I J Q = Rn (zG xl) 29 14 [v0, v1, v2, v3] (.ref 50 :: st) I J Q := (rGf f29_11 rfl).trans (tr_and rfl)
theorem x29_14 : Rn S 29 14 [v0, v1, .int a, v3] st I J Q = Rn S 29 15 [v0, v1, .int a, v3] (.int a :: st) I J Q := rL f29_14 rfl rfl
theorem x29_15 : Rn S 29 15 [v0, v1, v2, v3] (.int a :: .ref q :: st) I J Q = (zai S q a ∧ Rn S 29 16 [v0, v1, v2, v3] (.int (I q a.toNatClampNeg) :: st) I J Q) := rIal f29_15
theorem x29_16 : Rn S 29 16 [v0, .ref q, v2, v3] st I J Q = Rn S 29 17 [v0, .ref q, v2, v3] (.ref q :: st) I J Q := rL f29_16 rfl rfl
theorem x29_17_18 : Rn (zG xl) 29 17 [v0, v1, v2, v3] (.ref 18 :: st) I J Q = Rn (zG xl) 29 20 [v0, v1, v2, v3] (.int (I 18 0) :: st) I J Q := (rGf f29_17 rfl).trans (tr_and rfl)
theorem x29_17_38 : Rn (zG xl) 29 17 [v0, v1, v2, v3] (.ref 38 :: st) I J Q = Rn (zG xl) 29 20 [v0, v1, v2, v3] (.int (I 38 0) :: st) I J Q := (rGf f29_17 rfl).trans (tr_and rfl)
theorem x29_20 : Rn S 29 20 [v0, v1, v2, v3] (.int b :: .int a :: st) I J Q = if a < b then Rn S 29 23 [v0, v1, v2, v3] st I J Q else Rn S 29 27 [v0, v1, v2, v3] st I J Q := rCge f29_20 rfl rfl
theorem x29_23 : Rn S 29 23 [v0, v1, v2, v3] st I J Q = Rn S 29 24 [v0, v1, v2, v3] (.int 1 :: st) I J Q := rS f29_23 rfl
theorem x29_24 : Rn S 29 24 [v0, v1, v2, v3] st I J Q = Rn S 29 28 [v0, v1, v2, v3] st I J Q := rB f29_24 rfl rfl rfl
theorem x29_27 : Rn S 29 27 [v0, v1, v2, v3] st I J Q = Rn S 29 28 [v0, v1, v2, v3] (.int 0 :: st) I J Q := rS f29_27 rfl
theorem x29_28 : Rn S 29 28 [v0, v1, v2, v3] (.int a :: st) I J Q = Rn S 29 29 [v0, v1, zkl v2, .int a] st I J Q := rL f29_28 rfl rfl
theorem x29_29 : Rn S 29 29 [v0, v1, v2, .int a] st I J Q = Rn S 29 30 [v0, v1, v2, .int a] (.int a :: st) I J Q := rL f29_29 rfl rfl
theorem x29_30 : Rn S 29 30 [v0, v1, v2, v3] (.int a :: st) I J Q = if a = 0 then Rn S 29 67 [v0, v1, v2, v3] st I J Q else Rn S 29 33 [v0, v1, v2, v3] st I J Q := rIeq f29_30 rfl rfl
theorem x29_33 : Rn S 29 33 [v0, .ref q, v2, v3] st I J Q = Rn S 29 34 [v0, .ref q, v2, v3] (.ref q :: st) I J Q := rL f29_33 rfl rfl
theorem x29_34 : Rn S 29 34 [.ref q, v1, v2, v3] st I J Q = Rn S 29 35 [.ref q, v1, v2, v3] (.ref q :: st) I J Q := rL f29_34 rfl rfl
theorem x29_35_48 : Rn (zG xl) 29 35 [v0, v1, v2, v3] (.ref 48 :: st) I J Q = Rn (zG xl) 29 38 [v0, v1, v2, v3] (.ref 50 :: st) I J Q := (rGf f29_35 rfl).trans (tr_and rfl)
theorem x29_38 : Rn S 29 38 [v0, v1, .int a, v3] st I J Q = Rn S 29 39 [v0, v1, .int a, v3] (.int a :: st) I J Q := rL f29_38 rfl rfl
theorem x29_39 : Rn S 29 39 [v0, v1, v2, v3] (.int a :: .ref q :: st) I J Q = (zai S q a ∧ Rn S 29 40 [v0, v1, v2, v3] (.int (I q a.toNatClampNeg) :: st) I J Q) := rIal f29_39
theorem x29_40 : Rn S 29 40 [.ref q, v1, v2, v3] st I J Q = Rn S 29 41 [.ref q, v1, v2, v3] (.ref q :: st) I J Q := rL f29_40 rfl rfl
theorem x29_41_48 : Rn (zG xl) 29 41 [v0, v1, v2, v3] (.ref 48 :: st) I J Q = Rn (zG xl) 29 44 [v0, v1, v2, v3] (.ref 49 :: st) I J Q := (rGf f29_41 rfl).trans (tr_and rfl)
theorem x29_44 : Rn S 29 44 [v0, v1, .int a, v3] st I J Q = Rn S 29 45 [v0, v1, .int a, v3] (.int a :: st) I J Q := rL f29_44 rfl rfl
theorem x29_45 : Rn S 29 45 [v0, v1, v2, v3] (.int a :: .ref q :: st) I J Q = (zai S q a ∧ Rn S 29 46 [v0, v1, v2, v3] (.int (I q a.toNatClampNeg) :: st) I J Q) := rIal f29_45
theorem x29_46 : Rn S 29 46 [v0, v1, v2, v3] (.int a1 :: .int a0 :: .ref q :: st) I J Q = ((zcls S q = 0 ∧ zcs st ≤ 8) ∧ Rn S 6 0 [.ref q, .int a0, .int a1] [] I J (fun v I' J' => Rn S 29 49 [v0, v1, v2, v3] (v.toList ++ st) I' J' Q)) := rCV (As := [.int a0, .int a1]) f29_46 rfl rfl rfl rfl (Nat.le_of_ble_eq_true rfl)
theorem x29_49 : Rn S 29 49 [.ref q, v1, v2, v3] st I J Q = Rn S 29 50 [.ref q, v1, v2, v3] (.ref q :: st) I J Q := rL f29_49 rfl rfl
theorem x29_50_48 : Rn (zG xl) 29 50 [v0, v1, v2, v3] (.ref 48 :: st) I J Q = Rn (zG xl) 29 53 [v0, v1, v2, v3] (.ref 51 :: st) I J Q := (rGf f29_50 rfl).trans (tr_and rfl)
theorem x29_53 : Rn S 29 53 [v0, v1, .int a, v3] st I J Q = Rn S 29 54 [v0, v1, .int a, v3] (.int a :: st) I J Q := rL f29_53 rfl rfl
theorem x29_54 : Rn S 29 54 [v0, v1, v2, v3] (.int a :: .ref q :: st) I J Q = (zai S q a ∧ Rn S 29 55 [v0, v1, v2, v3] (.int (I q a.toNatClampNeg) :: st) I J Q) := rIal f29_54
theorem x29_55 : Rn S 29 55 [v0, v1, v2, v3] st I J Q = Rn S 29 56 [v0, v1, v2, v3] (.int 1 :: st) I J Q := rS f29_55 rfl
theorem x29_56 : Rn S 29 56 [v0, v1, v2, v3] (.int b :: .int a :: st) I J Q = if a = b then Rn S 29 59 [v0, v1, v2, v3] st I J Q else Rn S 29 63 [v0, v1, v2, v3] st I J Q := rCne f29_56 rfl rfl
theorem x29_59 : Rn S 29 59 [v0, v1, v2, v3] st I J Q = Rn S 29 60 [v0, v1, v2, v3] (.int 1 :: st) I J Q := rS f29_59 rfl
theorem x29_60 : Rn S 29 60 [v0, v1, v2, v3] st I J Q = Rn S 29 64 [v0, v1, v2, v3] st I J Q := rB f29_60 rfl rfl rfl
theorem x29_63 : Rn S 29 63 [v0, v1, v2, v3] st I J Q = Rn S 29 64 [v0, v1, v2, v3] (.int 0 :: st) I J Q := rS f29_63 rfl
theorem x29_64 : Rn S 29 64 [v0, v1, v2, v3] (.int b :: .int a :: st) I J Q = if a = b then Rn S 29 69 [v0, v1, v2, v3] st I J Q else Rn S 29 67 [v0, v1, v2, v3] st I J Q := rCeq f29_64 rfl rfl
theorem x29_67 : Rn S 29 67 [v0, v1, v2, v3] st I J Q = Rn S 29 68 [v0, v1, v2, v3] (.int 0 :: st) I J Q := rS f29_67 rfl
theorem x29_68 : Rn S 29 68 [v0, v1, v2, v3] [.int a] I J Q = ((a = 0 ∨ a = 1) ∧ Q (some (.int a)) I J) := rRZ f29_68 (Or.inl rfl)
theorem x29_69 : Rn S 29 69 [v0, v1, .int a, v3] st I J Q = Rn S 29 72 [v0, zkl v1, .int (a + 1), v3] st I J Q := rL f29_69 rfl rfl
theorem x29_72 : Rn S 29 72 [v0, v1, v2, v3] st I J Q = Rn S 29 2 [v0, v1, v2, v3] st I J Q := rB f29_72 rfl rfl rfl
theorem x29_75 : Rn S 29 75 [v0, v1, v2, v3] st I J Q = Rn S 29 76 [v0, v1, v2, v3] (.int 1 :: st) I J Q := rS f29_75 rfl
theorem x29_76 : Rn S 29 76 [v0, v1, v2, v3] [.int a] I J Q = ((a = 0 ∨ a = 1) ∧ Q (some (.int a)) I J) := rRZ f29_76 (Or.inl rfl)
/-! X4.faultPlace: 31 -/
theorem B31 : zB 31 = cX4_faultPlace := rfl
theorem f31_0 : zft 31 0 = some (.iconst 0, 1) := fet B31 (by decide +kernel) (Or.inr rfl)
theorem f31_1 : zft 31 1 = some (.istore_n 1, 1) := fet B31 (by decide +kernel) (Or.inr rfl)
theorem f31_2 : zft 31 2 = some (.iload_n 1, 1) := fet B31 (by decide +kernel) (Or.inr rfl)
theorem f31_3 : zft 31 3 = some (.aload_n 0, 1) := fet B31 (by decide +kernel) (Or.inr rfl)
theorem f31_4 : zft 31 4 = some (.getfield 23, 3) := fet B31 (by decide +kernel) (Or.inr rfl)
theorem f31_7 : zft 31 7 = some (.if_icmp .ge 19, 3) := fet B31 (by decide +kernel) (Or.inr rfl)
theorem f31_10 : zft 31 10 = some (.aload_n 0, 1) := fet B31 (by decide +kernel) (Or.inr rfl)
theorem f31_11 : zft 31 11 = some (.iload_n 1, 1) := fet B31 (by decide +kernel) (Or.inr rfl)
theorem f31_12 : zft 31 12 = some (.invokevirtual 26, 3) := fet B31 (by decide +kernel) (Or.inr rfl)
theorem f31_15 : zft 31 15 = some (.ifCond .ne 5, 3) := fet B31 (by decide +kernel) (Or.inr rfl)
theorem f31_18 : zft 31 18 = some (.iload_n 1, 1) := fet B31 (by decide +kernel) (Or.inr rfl)
theorem f31_19 : zft 31 19 = some (.ireturn, 1) := fet B31 (by decide +kernel) (Or.inr rfl)
theorem f31_20 : zft 31 20 = some (.iinc 1 1, 3) := fet B31 (by decide +kernel) (Or.inr rfl)
theorem f31_23 : zft 31 23 = some (.goto (-21), 3) := fet B31 (by decide +kernel) (Or.inr rfl)
theorem f31_26 : zft 31 26 = some (.aload_n 0, 1) := fet B31 (by decide +kernel) (Or.inr rfl)
theorem f31_27 : zft 31 27 = some (.getfield 23, 3) := fet B31 (by decide +kernel) (Or.inr rfl)
theorem f31_30 : zft 31 30 = some (.ifCond .eq 13, 3) := fet B31 (by decide +kernel) (Or.inr rfl)
theorem f31_33 : zft 31 33 = some (.aload_n 0, 1) := fet B31 (by decide +kernel) (Or.inr rfl)
theorem f31_34 : zft 31 34 = some (.getfield 23, 3) := fet B31 (by decide +kernel) (Or.inr rfl)
theorem f31_37 : zft 31 37 = some (.iconst 3, 1) := fet B31 (by decide +kernel) (Or.inr rfl)
theorem f31_38 : zft 31 38 = some (.irem, 1) := fet B31 (by decide +kernel) (Or.inr rfl)
theorem f31_39 : zft 31 39 = some (.iconst 2, 1) := fet B31 (by decide +kernel) (Or.inr rfl)
theorem f31_40 : zft 31 40 = some (.if_icmp .ne 7, 3) := fet B31 (by decide +kernel) (Or.inr rfl)
theorem f31_43 : zft 31 43 = some (.iconst (-1), 1) := fet B31 (by decide +kernel) (Or.inr rfl)
theorem f31_44 : zft 31 44 = some (.goto 7, 3) := fet B31 (by decide +kernel) (Or.inr rfl)
theorem f31_47 : zft 31 47 = some (.aload_n 0, 1) := fet B31 (by decide +kernel) (Or.inr rfl)
theorem f31_48 : zft 31 48 = some (.getfield 23, 3) := fet B31 (by decide +kernel) (Or.inr rfl)
theorem f31_51 : zft 31 51 = some (.ireturn, 1) := fet B31 (by decide +kernel) (Or.inr rfl)
theorem x31_0 : Rn S 31 0 [v0, v1] st I J Q = Rn S 31 1 [v0, v1] (.int 0 :: st) I J Q := rS f31_0 rfl
theorem x31_1 : Rn S 31 1 [v0, v1] (.int a :: st) I J Q = Rn S 31 2 [zkl v0, .int a] st I J Q := rL f31_1 rfl rfl
theorem h31_2 : Rn S 31 2 [v0, .int a] st I J Q = Rn S 31 3 [v0, .int a] (.int a :: st) I J Q := rL f31_2 rfl rfl
theorem x31_3 : Rn S 31 3 [.ref q, v1] st I J Q = Rn S 31 4 [.ref q, v1] (.ref q :: st) I J Q := rL f31_3 rfl rfl
theorem x31_4_2 : Rn (zG xl) 31 4 [v0, v1] (.ref 2 :: st) I J Q = Rn (zG xl) 31 7 [v0, v1] (.int (I 2 3) :: st) I J Q := (rGf f31_4 rfl).trans (tr_and rfl)
theorem x31_4_4 : Rn (zG xl) 31 4 [v0, v1] (.ref 4 :: st) I J Q = Rn (zG xl) 31 7 [v0, v1] (.int (I 4 3) :: st) I J Q := (rGf f31_4 rfl).trans (tr_and rfl)
theorem x31_4_6 : Rn (zG xl) 31 4 [v0, v1] (.ref 6 :: st) I J Q = Rn (zG xl) 31 7 [v0, v1] (.int (I 6 3) :: st) I J Q := (rGf f31_4 rfl).trans (tr_and rfl)
theorem x31_7 : Rn S 31 7 [v0, v1] (.int b :: .int a :: st) I J Q = if a < b then Rn S 31 10 [v0, v1] st I J Q else Rn S 31 26 [v0, v1] st I J Q := rCge f31_7 rfl rfl
theorem x31_10 : Rn S 31 10 [.ref q, v1] st I J Q = Rn S 31 11 [.ref q, v1] (.ref q :: st) I J Q := rL f31_10 rfl rfl
theorem x31_11 : Rn S 31 11 [v0, .int a] st I J Q = Rn S 31 12 [v0, .int a] (.int a :: st) I J Q := rL f31_11 rfl rfl
theorem x31_12 : Rn S 31 12 [v0, v1] (.int a0 :: .ref q :: st) I J Q = ((zcls S q = 4 ∧ zcs st ≤ 8) ∧ Rn S 32 0 [.ref q, .int a0, .null] [] I J (fun v I' J' => Rn S 31 15 [v0, v1] (v.toList ++ st) I' J' Q)) := rCV (As := [.int a0]) f31_12 rfl rfl rfl rfl (Nat.le_of_ble_eq_true rfl)
theorem x31_15 : Rn S 31 15 [v0, v1] (.int a :: st) I J Q = if a = 0 then Rn S 31 18 [v0, v1] st I J Q else Rn S 31 20 [v0, v1] st I J Q := rIne f31_15 rfl rfl
theorem x31_18 : Rn S 31 18 [v0, .int a] st I J Q = Rn S 31 19 [v0, .int a] (.int a :: st) I J Q := rL f31_18 rfl rfl
theorem x31_19 : Rn S 31 19 [v0, v1] [.int a] I J Q = Q (some (.int a)) I J := rR f31_19 rfl rfl rfl rfl rfl
theorem x31_20 : Rn S 31 20 [v0, .int a] st I J Q = Rn S 31 23 [zkl v0, .int (a + 1)] st I J Q := rL f31_20 rfl rfl
theorem x31_23 : Rn S 31 23 [v0, v1] st I J Q = Rn S 31 2 [v0, v1] st I J Q := rB f31_23 rfl rfl rfl
theorem x31_26 : Rn S 31 26 [.ref q, v1] st I J Q = Rn S 31 27 [.ref q, v1] (.ref q :: st) I J Q := rL f31_26 rfl rfl
theorem x31_27_2 : Rn (zG xl) 31 27 [v0, v1] (.ref 2 :: st) I J Q = Rn (zG xl) 31 30 [v0, v1] (.int (I 2 3) :: st) I J Q := (rGf f31_27 rfl).trans (tr_and rfl)
theorem x31_27_4 : Rn (zG xl) 31 27 [v0, v1] (.ref 4 :: st) I J Q = Rn (zG xl) 31 30 [v0, v1] (.int (I 4 3) :: st) I J Q := (rGf f31_27 rfl).trans (tr_and rfl)
theorem x31_27_6 : Rn (zG xl) 31 27 [v0, v1] (.ref 6 :: st) I J Q = Rn (zG xl) 31 30 [v0, v1] (.int (I 6 3) :: st) I J Q := (rGf f31_27 rfl).trans (tr_and rfl)
theorem x31_30 : Rn S 31 30 [v0, v1] (.int a :: st) I J Q = if a = 0 then Rn S 31 43 [v0, v1] st I J Q else Rn S 31 33 [v0, v1] st I J Q := rIeq f31_30 rfl rfl
theorem x31_33 : Rn S 31 33 [.ref q, v1] st I J Q = Rn S 31 34 [.ref q, v1] (.ref q :: st) I J Q := rL f31_33 rfl rfl
theorem x31_34_2 : Rn (zG xl) 31 34 [v0, v1] (.ref 2 :: st) I J Q = Rn (zG xl) 31 37 [v0, v1] (.int (I 2 3) :: st) I J Q := (rGf f31_34 rfl).trans (tr_and rfl)
theorem x31_34_4 : Rn (zG xl) 31 34 [v0, v1] (.ref 4 :: st) I J Q = Rn (zG xl) 31 37 [v0, v1] (.int (I 4 3) :: st) I J Q := (rGf f31_34 rfl).trans (tr_and rfl)
theorem x31_34_6 : Rn (zG xl) 31 34 [v0, v1] (.ref 6 :: st) I J Q = Rn (zG xl) 31 37 [v0, v1] (.int (I 6 3) :: st) I J Q := (rGf f31_34 rfl).trans (tr_and rfl)
theorem x31_37 : Rn S 31 37 [v0, v1] st I J Q = Rn S 31 38 [v0, v1] (.int 3 :: st) I J Q := rS f31_37 rfl
theorem x31_38 : Rn S 31 38 [v0, v1] (.int b :: .int a :: st) I J Q = (¬ b = 0 ∧ Rn S 31 39 [v0, v1] (.int (a - a / b * b) :: st) I J Q) := rRi f31_38
theorem x31_39 : Rn S 31 39 [v0, v1] st I J Q = Rn S 31 40 [v0, v1] (.int 2 :: st) I J Q := rS f31_39 rfl
theorem x31_40 : Rn S 31 40 [v0, v1] (.int b :: .int a :: st) I J Q = if a = b then Rn S 31 43 [v0, v1] st I J Q else Rn S 31 47 [v0, v1] st I J Q := rCne f31_40 rfl rfl
theorem x31_43 : Rn S 31 43 [v0, v1] st I J Q = Rn S 31 44 [v0, v1] (.int (-1) :: st) I J Q := rS f31_43 rfl
theorem x31_44 : Rn S 31 44 [v0, v1] st I J Q = Rn S 31 51 [v0, v1] st I J Q := rB f31_44 rfl rfl rfl
theorem x31_47 : Rn S 31 47 [.ref q, v1] st I J Q = Rn S 31 48 [.ref q, v1] (.ref q :: st) I J Q := rL f31_47 rfl rfl
theorem x31_48_2 : Rn (zG xl) 31 48 [v0, v1] (.ref 2 :: st) I J Q = Rn (zG xl) 31 51 [v0, v1] (.int (I 2 3) :: st) I J Q := (rGf f31_48 rfl).trans (tr_and rfl)
theorem x31_48_4 : Rn (zG xl) 31 48 [v0, v1] (.ref 4 :: st) I J Q = Rn (zG xl) 31 51 [v0, v1] (.int (I 4 3) :: st) I J Q := (rGf f31_48 rfl).trans (tr_and rfl)
theorem x31_48_6 : Rn (zG xl) 31 48 [v0, v1] (.ref 6 :: st) I J Q = Rn (zG xl) 31 51 [v0, v1] (.int (I 6 3) :: st) I J Q := (rGf f31_48 rfl).trans (tr_and rfl)
theorem x31_51 : Rn S 31 51 [v0, v1] [.int a] I J Q = Q (some (.int a)) I J := rR f31_51 rfl rfl rfl rfl rfl
/-! X4.fits: 32 -/
theorem B32 : zB 32 = cX4_fits := rfl
theorem f32_0 : zft 32 0 = some (.aload_n 0, 1) := fet B32 (by decide +kernel) (Or.inr rfl)
theorem f32_1 : zft 32 1 = some (.getfield 19, 3) := fet B32 (by decide +kernel) (Or.inr rfl)
theorem f32_4 : zft 32 4 = some (.iload_n 1, 1) := fet B32 (by decide +kernel) (Or.inr rfl)
theorem f32_5 : zft 32 5 = some (.iaload, 1) := fet B32 (by decide +kernel) (Or.inr rfl)
theorem f32_6 : zft 32 6 = some (.istore_n 2, 1) := fet B32 (by decide +kernel) (Or.inr rfl)
theorem f32_7 : zft 32 7 = some (.iload_n 1, 1) := fet B32 (by decide +kernel) (Or.inr rfl)
theorem f32_8 : zft 32 8 = some (.iconst 3, 1) := fet B32 (by decide +kernel) (Or.inr rfl)
theorem f32_9 : zft 32 9 = some (.irem, 1) := fet B32 (by decide +kernel) (Or.inr rfl)
theorem f32_10 : zft 32 10 = some (.lookupswitch 67 #[(0, 26), (1, 44)], 26) := fet B32 (by decide +kernel) (Or.inl rfl)
theorem f32_36 : zft 32 36 = some (.aload_n 0, 1) := fet B32 (by decide +kernel) (Or.inr rfl)
theorem f32_37 : zft 32 37 = some (.getfield 9, 3) := fet B32 (by decide +kernel) (Or.inr rfl)
theorem f32_40 : zft 32 40 = some (.iload_n 2, 1) := fet B32 (by decide +kernel) (Or.inr rfl)
theorem f32_41 : zft 32 41 = some (.i2c, 1) := fet B32 (by decide +kernel) (Or.inr rfl)
theorem f32_42 : zft 32 42 = some (.invokevirtual 30, 3) := fet B32 (by decide +kernel) (Or.inr rfl)
theorem f32_45 : zft 32 45 = some (.ifCond .lt 7, 3) := fet B32 (by decide +kernel) (Or.inr rfl)
theorem f32_48 : zft 32 48 = some (.iconst 1, 1) := fet B32 (by decide +kernel) (Or.inr rfl)
theorem f32_49 : zft 32 49 = some (.goto 4, 3) := fet B32 (by decide +kernel) (Or.inr rfl)
theorem f32_52 : zft 32 52 = some (.iconst 0, 1) := fet B32 (by decide +kernel) (Or.inr rfl)
theorem f32_53 : zft 32 53 = some (.ireturn, 1) := fet B32 (by decide +kernel) (Or.inr rfl)
theorem f32_54 : zft 32 54 = some (.iload_n 2, 1) := fet B32 (by decide +kernel) (Or.inr rfl)
theorem f32_55 : zft 32 55 = some (.bipush 48, 2) := fet B32 (by decide +kernel) (Or.inr rfl)
theorem f32_57 : zft 32 57 = some (.aload_n 0, 1) := fet B32 (by decide +kernel) (Or.inr rfl)
theorem f32_58 : zft 32 58 = some (.getfield 15, 3) := fet B32 (by decide +kernel) (Or.inr rfl)
theorem f32_61 : zft 32 61 = some (.iadd, 1) := fet B32 (by decide +kernel) (Or.inr rfl)
theorem f32_62 : zft 32 62 = some (.if_icmp .lt 13, 3) := fet B32 (by decide +kernel) (Or.inr rfl)
theorem f32_65 : zft 32 65 = some (.iload_n 2, 1) := fet B32 (by decide +kernel) (Or.inr rfl)
theorem f32_66 : zft 32 66 = some (.bipush 57, 2) := fet B32 (by decide +kernel) (Or.inr rfl)
theorem f32_68 : zft 32 68 = some (.if_icmp .gt 7, 3) := fet B32 (by decide +kernel) (Or.inr rfl)
theorem f32_71 : zft 32 71 = some (.iconst 1, 1) := fet B32 (by decide +kernel) (Or.inr rfl)
theorem f32_72 : zft 32 72 = some (.goto 4, 3) := fet B32 (by decide +kernel) (Or.inr rfl)
theorem f32_75 : zft 32 75 = some (.iconst 0, 1) := fet B32 (by decide +kernel) (Or.inr rfl)
theorem f32_76 : zft 32 76 = some (.ireturn, 1) := fet B32 (by decide +kernel) (Or.inr rfl)
theorem f32_77 : zft 32 77 = some (.iload_n 2, 1) := fet B32 (by decide +kernel) (Or.inr rfl)
theorem f32_78 : zft 32 78 = some (.bipush 59, 2) := fet B32 (by decide +kernel) (Or.inr rfl)
theorem f32_80 : zft 32 80 = some (.if_icmp .ne 7, 3) := fet B32 (by decide +kernel) (Or.inr rfl)
theorem f32_83 : zft 32 83 = some (.iconst 1, 1) := fet B32 (by decide +kernel) (Or.inr rfl)
theorem f32_84 : zft 32 84 = some (.goto 4, 3) := fet B32 (by decide +kernel) (Or.inr rfl)
theorem f32_87 : zft 32 87 = some (.iconst 0, 1) := fet B32 (by decide +kernel) (Or.inr rfl)
theorem f32_88 : zft 32 88 = some (.ireturn, 1) := fet B32 (by decide +kernel) (Or.inr rfl)
theorem x32_0 : Rn S 32 0 [.ref q, v1, v2] st I J Q = Rn S 32 1 [.ref q, v1, v2] (.ref q :: st) I J Q := rL f32_0 rfl rfl
theorem x32_1_2 : Rn (zG xl) 32 1 [v0, v1, v2] (.ref 2 :: st) I J Q = Rn (zG xl) 32 4 [v0, v1, v2] (.ref 3 :: st) I J Q := (rGf f32_1 rfl).trans (tr_and rfl)
theorem x32_1_4 : Rn (zG xl) 32 1 [v0, v1, v2] (.ref 4 :: st) I J Q = Rn (zG xl) 32 4 [v0, v1, v2] (.ref 5 :: st) I J Q := (rGf f32_1 rfl).trans (tr_and rfl)
theorem x32_1_6 : Rn (zG xl) 32 1 [v0, v1, v2] (.ref 6 :: st) I J Q = Rn (zG xl) 32 4 [v0, v1, v2] (.ref 7 :: st) I J Q := (rGf f32_1 rfl).trans (tr_and rfl)
theorem x32_4 : Rn S 32 4 [v0, .int a, v2] st I J Q = Rn S 32 5 [v0, .int a, v2] (.int a :: st) I J Q := rL f32_4 rfl rfl
theorem x32_5 : Rn S 32 5 [v0, v1, v2] (.int a :: .ref q :: st) I J Q = (zai S q a ∧ Rn S 32 6 [v0, v1, v2] (.int (I q a.toNatClampNeg) :: st) I J Q) := rIal f32_5
theorem x32_6 : Rn S 32 6 [v0, v1, v2] (.int a :: st) I J Q = Rn S 32 7 [v0, zkl v1, .int a] st I J Q := rL f32_6 rfl rfl
theorem x32_7 : Rn S 32 7 [v0, .int a, v2] st I J Q = Rn S 32 8 [v0, .int a, v2] (.int a :: st) I J Q := rL f32_7 rfl rfl
theorem x32_8 : Rn S 32 8 [v0, v1, v2] st I J Q = Rn S 32 9 [v0, v1, v2] (.int 3 :: st) I J Q := rS f32_8 rfl
theorem x32_9 : Rn S 32 9 [v0, v1, v2] (.int b :: .int a :: st) I J Q = (¬ b = 0 ∧ Rn S 32 10 [v0, v1, v2] (.int (a - a / b * b) :: st) I J Q) := rRi f32_9
theorem x32_10 : Rn S 32 10 [v0, v1, v2] (.int a :: st) I J Q = if a = 0 then Rn S 32 36 [v0, v1, v2] st I J Q else if a = 1 then Rn S 32 54 [v0, v1, v2] st I J Q else Rn S 32 77 [v0, v1, v2] st I J Q := rLk f32_10 rfl rfl rfl
theorem x32_36 : Rn S 32 36 [.ref q, v1, v2] st I J Q = Rn S 32 37 [.ref q, v1, v2] (.ref q :: st) I J Q := rL f32_36 rfl rfl
theorem x32_37_2 : Rn (zG xl) 32 37 [v0, v1, v2] (.ref 2 :: st) I J Q = Rn (zG xl) 32 40 [v0, v1, v2] (.ref 1001 :: st) I J Q := (rGf f32_37 rfl).trans (tr_and rfl)
theorem x32_37_4 : Rn (zG xl) 32 37 [v0, v1, v2] (.ref 4 :: st) I J Q = Rn (zG xl) 32 40 [v0, v1, v2] (.ref 1002 :: st) I J Q := (rGf f32_37 rfl).trans (tr_and rfl)
theorem x32_37_6 : Rn (zG xl) 32 37 [v0, v1, v2] (.ref 6 :: st) I J Q = Rn (zG xl) 32 40 [v0, v1, v2] (.ref 1003 :: st) I J Q := (rGf f32_37 rfl).trans (tr_and rfl)
theorem x32_40 : Rn S 32 40 [v0, v1, .int a] st I J Q = Rn S 32 41 [v0, v1, .int a] (.int a :: st) I J Q := rL f32_40 rfl rfl
theorem x32_41 : Rn S 32 41 [v0, v1, v2] (.int a :: st) I J Q = Rn S 32 42 [v0, v1, v2] (.int (a.toUInt32 % 65536).toInt32 :: st) I J Q := rS f32_41 rfl
theorem x32_42 : Rn S 32 42 [v0, v1, v2] (.int a0 :: .ref q :: st) I J Q = ((zcls S q = 10 ∧ zcs st ≤ 8) ∧ Rn S 190 0 [.ref q, .int a0] [] I J (fun v I' J' => Rn S 32 45 [v0, v1, v2] (v.toList ++ st) I' J' Q)) := rCV (As := [.int a0]) f32_42 rfl rfl rfl rfl (Nat.le_of_ble_eq_true rfl)
theorem x32_45 : Rn S 32 45 [v0, v1, v2] (.int a :: st) I J Q = if a < 0 then Rn S 32 52 [v0, v1, v2] st I J Q else Rn S 32 48 [v0, v1, v2] st I J Q := rIlt f32_45 rfl rfl
theorem x32_48 : Rn S 32 48 [v0, v1, v2] st I J Q = Rn S 32 49 [v0, v1, v2] (.int 1 :: st) I J Q := rS f32_48 rfl
theorem x32_49 : Rn S 32 49 [v0, v1, v2] st I J Q = Rn S 32 53 [v0, v1, v2] st I J Q := rB f32_49 rfl rfl rfl
theorem x32_52 : Rn S 32 52 [v0, v1, v2] st I J Q = Rn S 32 53 [v0, v1, v2] (.int 0 :: st) I J Q := rS f32_52 rfl
theorem x32_53 : Rn S 32 53 [v0, v1, v2] [.int a] I J Q = ((a = 0 ∨ a = 1) ∧ Q (some (.int a)) I J) := rRZ f32_53 (Or.inl rfl)
theorem x32_54 : Rn S 32 54 [v0, v1, .int a] st I J Q = Rn S 32 55 [v0, v1, .int a] (.int a :: st) I J Q := rL f32_54 rfl rfl
theorem x32_55 : Rn S 32 55 [v0, v1, v2] st I J Q = Rn S 32 57 [v0, v1, v2] (.int 48 :: st) I J Q := rS f32_55 rfl
theorem x32_57 : Rn S 32 57 [.ref q, v1, v2] st I J Q = Rn S 32 58 [.ref q, v1, v2] (.ref q :: st) I J Q := rL f32_57 rfl rfl
theorem x32_58_2 : Rn (zG xl) 32 58 [v0, v1, v2] (.ref 2 :: st) I J Q = Rn (zG xl) 32 61 [v0, v1, v2] (.int (I 2 1) :: st) I J Q := (rGf f32_58 rfl).trans (tr_and rfl)
theorem x32_58_4 : Rn (zG xl) 32 58 [v0, v1, v2] (.ref 4 :: st) I J Q = Rn (zG xl) 32 61 [v0, v1, v2] (.int (I 4 1) :: st) I J Q := (rGf f32_58 rfl).trans (tr_and rfl)
theorem x32_58_6 : Rn (zG xl) 32 58 [v0, v1, v2] (.ref 6 :: st) I J Q = Rn (zG xl) 32 61 [v0, v1, v2] (.int (I 6 1) :: st) I J Q := (rGf f32_58 rfl).trans (tr_and rfl)
theorem x32_61 : Rn S 32 61 [v0, v1, v2] (.int b :: .int a :: st) I J Q = Rn S 32 62 [v0, v1, v2] (.int (a + b) :: st) I J Q := rS f32_61 rfl
theorem x32_62 : Rn S 32 62 [v0, v1, v2] (.int b :: .int a :: st) I J Q = if a < b then Rn S 32 75 [v0, v1, v2] st I J Q else Rn S 32 65 [v0, v1, v2] st I J Q := rClt f32_62 rfl rfl
theorem x32_65 : Rn S 32 65 [v0, v1, .int a] st I J Q = Rn S 32 66 [v0, v1, .int a] (.int a :: st) I J Q := rL f32_65 rfl rfl
theorem x32_66 : Rn S 32 66 [v0, v1, v2] st I J Q = Rn S 32 68 [v0, v1, v2] (.int 57 :: st) I J Q := rS f32_66 rfl
theorem x32_68 : Rn S 32 68 [v0, v1, v2] (.int b :: .int a :: st) I J Q = if b < a then Rn S 32 75 [v0, v1, v2] st I J Q else Rn S 32 71 [v0, v1, v2] st I J Q := rCgt f32_68 rfl rfl
theorem x32_71 : Rn S 32 71 [v0, v1, v2] st I J Q = Rn S 32 72 [v0, v1, v2] (.int 1 :: st) I J Q := rS f32_71 rfl
theorem x32_72 : Rn S 32 72 [v0, v1, v2] st I J Q = Rn S 32 76 [v0, v1, v2] st I J Q := rB f32_72 rfl rfl rfl
theorem x32_75 : Rn S 32 75 [v0, v1, v2] st I J Q = Rn S 32 76 [v0, v1, v2] (.int 0 :: st) I J Q := rS f32_75 rfl
theorem x32_76 : Rn S 32 76 [v0, v1, v2] [.int a] I J Q = ((a = 0 ∨ a = 1) ∧ Q (some (.int a)) I J) := rRZ f32_76 (Or.inl rfl)
theorem x32_77 : Rn S 32 77 [v0, v1, .int a] st I J Q = Rn S 32 78 [v0, v1, .int a] (.int a :: st) I J Q := rL f32_77 rfl rfl
theorem x32_78 : Rn S 32 78 [v0, v1, v2] st I J Q = Rn S 32 80 [v0, v1, v2] (.int 59 :: st) I J Q := rS f32_78 rfl
theorem x32_80 : Rn S 32 80 [v0, v1, v2] (.int b :: .int a :: st) I J Q = if a = b then Rn S 32 83 [v0, v1, v2] st I J Q else Rn S 32 87 [v0, v1, v2] st I J Q := rCne f32_80 rfl rfl
theorem x32_83 : Rn S 32 83 [v0, v1, v2] st I J Q = Rn S 32 84 [v0, v1, v2] (.int 1 :: st) I J Q := rS f32_83 rfl
theorem x32_84 : Rn S 32 84 [v0, v1, v2] st I J Q = Rn S 32 88 [v0, v1, v2] st I J Q := rB f32_84 rfl rfl rfl
theorem x32_87 : Rn S 32 87 [v0, v1, v2] st I J Q = Rn S 32 88 [v0, v1, v2] (.int 0 :: st) I J Q := rS f32_87 rfl
theorem x32_88 : Rn S 32 88 [v0, v1, v2] [.int a] I J Q = ((a = 0 ∨ a = 1) ∧ Q (some (.int a)) I J) := rRZ f32_88 (Or.inl rfl)
/-! X4.pairs: 33 -/
theorem B33 : zB 33 = cX4_pairs := rfl
theorem f33_0 : zft 33 0 = some (.aload_n 0, 1) := fet B33 (by decide +kernel) (Or.inr rfl)
theorem f33_1 : zft 33 1 = some (.invokevirtual 36, 3) := fet B33 (by decide +kernel) (Or.inr rfl)
theorem f33_4 : zft 33 4 = some (.iconst (-1), 1) := fet B33 (by decide +kernel) (Or.inr rfl)
theorem f33_5 : zft 33 5 = some (.if_icmp .ne 14, 3) := fet B33 (by decide +kernel) (Or.inr rfl)
theorem f33_8 : zft 33 8 = some (.aload_n 0, 1) := fet B33 (by decide +kernel) (Or.inr rfl)
theorem f33_9 : zft 33 9 = some (.getfield 23, 3) := fet B33 (by decide +kernel) (Or.inr rfl)
theorem f33_12 : zft 33 12 = some (.iconst 1, 1) := fet B33 (by decide +kernel) (Or.inr rfl)
theorem f33_13 : zft 33 13 = some (.iadd, 1) := fet B33 (by decide +kernel) (Or.inr rfl)
theorem f33_14 : zft 33 14 = some (.iconst 3, 1) := fet B33 (by decide +kernel) (Or.inr rfl)
theorem f33_15 : zft 33 15 = some (.idiv, 1) := fet B33 (by decide +kernel) (Or.inr rfl)
theorem f33_16 : zft 33 16 = some (.goto 4, 3) := fet B33 (by decide +kernel) (Or.inr rfl)
theorem f33_19 : zft 33 19 = some (.iconst 0, 1) := fet B33 (by decide +kernel) (Or.inr rfl)
theorem f33_20 : zft 33 20 = some (.ireturn, 1) := fet B33 (by decide +kernel) (Or.inr rfl)
theorem x33_0 : Rn S 33 0 [.ref q] st I J Q = Rn S 33 1 [.ref q] (.ref q :: st) I J Q := rL f33_0 rfl rfl
theorem x33_1 : Rn S 33 1 [v0] (.ref q :: st) I J Q = ((zcls S q = 4 ∧ zcs st ≤ 8) ∧ Rn S 31 0 [.ref q, .null] [] I J (fun v I' J' => Rn S 33 4 [v0] (v.toList ++ st) I' J' Q)) := rCV (As := []) f33_1 rfl rfl rfl rfl (Nat.le_of_ble_eq_true rfl)
theorem x33_4 : Rn S 33 4 [v0] st I J Q = Rn S 33 5 [v0] (.int (-1) :: st) I J Q := rS f33_4 rfl
theorem x33_5 : Rn S 33 5 [v0] (.int b :: .int a :: st) I J Q = if a = b then Rn S 33 8 [v0] st I J Q else Rn S 33 19 [v0] st I J Q := rCne f33_5 rfl rfl
theorem x33_8 : Rn S 33 8 [.ref q] st I J Q = Rn S 33 9 [.ref q] (.ref q :: st) I J Q := rL f33_8 rfl rfl
theorem x33_9_2 : Rn (zG xl) 33 9 [v0] (.ref 2 :: st) I J Q = Rn (zG xl) 33 12 [v0] (.int (I 2 3) :: st) I J Q := (rGf f33_9 rfl).trans (tr_and rfl)
theorem x33_9_4 : Rn (zG xl) 33 9 [v0] (.ref 4 :: st) I J Q = Rn (zG xl) 33 12 [v0] (.int (I 4 3) :: st) I J Q := (rGf f33_9 rfl).trans (tr_and rfl)
theorem x33_9_6 : Rn (zG xl) 33 9 [v0] (.ref 6 :: st) I J Q = Rn (zG xl) 33 12 [v0] (.int (I 6 3) :: st) I J Q := (rGf f33_9 rfl).trans (tr_and rfl)
theorem x33_12 : Rn S 33 12 [v0] st I J Q = Rn S 33 13 [v0] (.int 1 :: st) I J Q := rS f33_12 rfl
theorem x33_13 : Rn S 33 13 [v0] (.int b :: .int a :: st) I J Q = Rn S 33 14 [v0] (.int (a + b) :: st) I J Q := rS f33_13 rfl
theorem x33_14 : Rn S 33 14 [v0] st I J Q = Rn S 33 15 [v0] (.int 3 :: st) I J Q := rS f33_14 rfl
theorem x33_15 : Rn S 33 15 [v0] (.int b :: .int a :: st) I J Q = (¬ b = 0 ∧ Rn S 33 16 [v0] (.int (a / b) :: st) I J Q) := rDi f33_15
theorem x33_16 : Rn S 33 16 [v0] st I J Q = Rn S 33 20 [v0] st I J Q := rB f33_16 rfl rfl rfl
theorem x33_19 : Rn S 33 19 [v0] st I J Q = Rn S 33 20 [v0] (.int 0 :: st) I J Q := rS f33_19 rfl
theorem x33_20 : Rn S 33 20 [v0] [.int a] I J Q = Q (some (.int a)) I J := rR f33_20 rfl rfl rfl rfl rfl
/-! X4.headAt: 34 -/
theorem B34 : zB 34 = cX4_headAt := rfl
theorem f34_0 : zft 34 0 = some (.aload_n 0, 1) := fet B34 (by decide +kernel) (Or.inr rfl)
theorem f34_1 : zft 34 1 = some (.getfield 9, 3) := fet B34 (by decide +kernel) (Or.inr rfl)
theorem f34_4 : zft 34 4 = some (.aload_n 0, 1) := fet B34 (by decide +kernel) (Or.inr rfl)
theorem f34_5 : zft 34 5 = some (.getfield 19, 3) := fet B34 (by decide +kernel) (Or.inr rfl)
theorem f34_8 : zft 34 8 = some (.iconst 3, 1) := fet B34 (by decide +kernel) (Or.inr rfl)
theorem f34_9 : zft 34 9 = some (.iload_n 1, 1) := fet B34 (by decide +kernel) (Or.inr rfl)
theorem f34_10 : zft 34 10 = some (.imul, 1) := fet B34 (by decide +kernel) (Or.inr rfl)
theorem f34_11 : zft 34 11 = some (.iaload, 1) := fet B34 (by decide +kernel) (Or.inr rfl)
theorem f34_12 : zft 34 12 = some (.i2c, 1) := fet B34 (by decide +kernel) (Or.inr rfl)
theorem f34_13 : zft 34 13 = some (.invokevirtual 30, 3) := fet B34 (by decide +kernel) (Or.inr rfl)
theorem f34_16 : zft 34 16 = some (.ireturn, 1) := fet B34 (by decide +kernel) (Or.inr rfl)
theorem x34_0 : Rn S 34 0 [.ref q, v1] st I J Q = Rn S 34 1 [.ref q, v1] (.ref q :: st) I J Q := rL f34_0 rfl rfl
theorem x34_1_2 : Rn (zG xl) 34 1 [v0, v1] (.ref 2 :: st) I J Q = Rn (zG xl) 34 4 [v0, v1] (.ref 1001 :: st) I J Q := (rGf f34_1 rfl).trans (tr_and rfl)
theorem x34_1_4 : Rn (zG xl) 34 1 [v0, v1] (.ref 4 :: st) I J Q = Rn (zG xl) 34 4 [v0, v1] (.ref 1002 :: st) I J Q := (rGf f34_1 rfl).trans (tr_and rfl)
theorem x34_1_6 : Rn (zG xl) 34 1 [v0, v1] (.ref 6 :: st) I J Q = Rn (zG xl) 34 4 [v0, v1] (.ref 1003 :: st) I J Q := (rGf f34_1 rfl).trans (tr_and rfl)
theorem x34_4 : Rn S 34 4 [.ref q, v1] st I J Q = Rn S 34 5 [.ref q, v1] (.ref q :: st) I J Q := rL f34_4 rfl rfl
theorem x34_5_2 : Rn (zG xl) 34 5 [v0, v1] (.ref 2 :: st) I J Q = Rn (zG xl) 34 8 [v0, v1] (.ref 3 :: st) I J Q := (rGf f34_5 rfl).trans (tr_and rfl)
theorem x34_5_4 : Rn (zG xl) 34 5 [v0, v1] (.ref 4 :: st) I J Q = Rn (zG xl) 34 8 [v0, v1] (.ref 5 :: st) I J Q := (rGf f34_5 rfl).trans (tr_and rfl)
theorem x34_5_6 : Rn (zG xl) 34 5 [v0, v1] (.ref 6 :: st) I J Q = Rn (zG xl) 34 8 [v0, v1] (.ref 7 :: st) I J Q := (rGf f34_5 rfl).trans (tr_and rfl)
theorem x34_8 : Rn S 34 8 [v0, v1] st I J Q = Rn S 34 9 [v0, v1] (.int 3 :: st) I J Q := rS f34_8 rfl
theorem x34_9 : Rn S 34 9 [v0, .int a] st I J Q = Rn S 34 10 [v0, .int a] (.int a :: st) I J Q := rL f34_9 rfl rfl
theorem x34_10 : Rn S 34 10 [v0, v1] (.int b :: .int a :: st) I J Q = Rn S 34 11 [v0, v1] (.int (a * b) :: st) I J Q := rS f34_10 rfl
theorem x34_11 : Rn S 34 11 [v0, v1] (.int a :: .ref q :: st) I J Q = (zai S q a ∧ Rn S 34 12 [v0, v1] (.int (I q a.toNatClampNeg) :: st) I J Q) := rIal f34_11
theorem x34_12 : Rn S 34 12 [v0, v1] (.int a :: st) I J Q = Rn S 34 13 [v0, v1] (.int (a.toUInt32 % 65536).toInt32 :: st) I J Q := rS f34_12 rfl
theorem x34_13 : Rn S 34 13 [v0, v1] (.int a0 :: .ref q :: st) I J Q = ((zcls S q = 10 ∧ zcs st ≤ 8) ∧ Rn S 190 0 [.ref q, .int a0] [] I J (fun v I' J' => Rn S 34 16 [v0, v1] (v.toList ++ st) I' J' Q)) := rCV (As := [.int a0]) f34_13 rfl rfl rfl rfl (Nat.le_of_ble_eq_true rfl)
theorem x34_16 : Rn S 34 16 [v0, v1] [.int a] I J Q = Q (some (.int a)) I J := rR f34_16 rfl rfl rfl rfl rfl
/-! X4.figureAt: 35 -/
theorem B35 : zB 35 = cX4_figureAt := rfl
theorem f35_0 : zft 35 0 = some (.aload_n 0, 1) := fet B35 (by decide +kernel) (Or.inr rfl)
theorem f35_1 : zft 35 1 = some (.getfield 19, 3) := fet B35 (by decide +kernel) (Or.inr rfl)
theorem f35_4 : zft 35 4 = some (.iconst 3, 1) := fet B35 (by decide +kernel) (Or.inr rfl)
theorem f35_5 : zft 35 5 = some (.iload_n 1, 1) := fet B35 (by decide +kernel) (Or.inr rfl)
theorem f35_6 : zft 35 6 = some (.imul, 1) := fet B35 (by decide +kernel) (Or.inr rfl)
theorem f35_7 : zft 35 7 = some (.iconst 1, 1) := fet B35 (by decide +kernel) (Or.inr rfl)
theorem f35_8 : zft 35 8 = some (.iadd, 1) := fet B35 (by decide +kernel) (Or.inr rfl)
theorem f35_9 : zft 35 9 = some (.iaload, 1) := fet B35 (by decide +kernel) (Or.inr rfl)
theorem f35_10 : zft 35 10 = some (.bipush 48, 2) := fet B35 (by decide +kernel) (Or.inr rfl)
theorem f35_12 : zft 35 12 = some (.isub, 1) := fet B35 (by decide +kernel) (Or.inr rfl)
theorem f35_13 : zft 35 13 = some (.ireturn, 1) := fet B35 (by decide +kernel) (Or.inr rfl)
theorem x35_0 : Rn S 35 0 [.ref q, v1] st I J Q = Rn S 35 1 [.ref q, v1] (.ref q :: st) I J Q := rL f35_0 rfl rfl
theorem x35_1_2 : Rn (zG xl) 35 1 [v0, v1] (.ref 2 :: st) I J Q = Rn (zG xl) 35 4 [v0, v1] (.ref 3 :: st) I J Q := (rGf f35_1 rfl).trans (tr_and rfl)
theorem x35_1_4 : Rn (zG xl) 35 1 [v0, v1] (.ref 4 :: st) I J Q = Rn (zG xl) 35 4 [v0, v1] (.ref 5 :: st) I J Q := (rGf f35_1 rfl).trans (tr_and rfl)
theorem x35_1_6 : Rn (zG xl) 35 1 [v0, v1] (.ref 6 :: st) I J Q = Rn (zG xl) 35 4 [v0, v1] (.ref 7 :: st) I J Q := (rGf f35_1 rfl).trans (tr_and rfl)
theorem x35_4 : Rn S 35 4 [v0, v1] st I J Q = Rn S 35 5 [v0, v1] (.int 3 :: st) I J Q := rS f35_4 rfl
theorem x35_5 : Rn S 35 5 [v0, .int a] st I J Q = Rn S 35 6 [v0, .int a] (.int a :: st) I J Q := rL f35_5 rfl rfl
theorem x35_6 : Rn S 35 6 [v0, v1] (.int b :: .int a :: st) I J Q = Rn S 35 7 [v0, v1] (.int (a * b) :: st) I J Q := rS f35_6 rfl
theorem x35_7 : Rn S 35 7 [v0, v1] st I J Q = Rn S 35 8 [v0, v1] (.int 1 :: st) I J Q := rS f35_7 rfl
theorem x35_8 : Rn S 35 8 [v0, v1] (.int b :: .int a :: st) I J Q = Rn S 35 9 [v0, v1] (.int (a + b) :: st) I J Q := rS f35_8 rfl
theorem x35_9 : Rn S 35 9 [v0, v1] (.int a :: .ref q :: st) I J Q = (zai S q a ∧ Rn S 35 10 [v0, v1] (.int (I q a.toNatClampNeg) :: st) I J Q) := rIal f35_9
theorem x35_10 : Rn S 35 10 [v0, v1] st I J Q = Rn S 35 12 [v0, v1] (.int 48 :: st) I J Q := rS f35_10 rfl
theorem x35_12 : Rn S 35 12 [v0, v1] (.int b :: .int a :: st) I J Q = Rn S 35 13 [v0, v1] (.int (a - b) :: st) I J Q := rS f35_12 rfl
theorem x35_13 : Rn S 35 13 [v0, v1] [.int a] I J Q = Q (some (.int a)) I J := rR f35_13 rfl rfl rfl rfl rfl
/-! J6.bitCount_0f7a4: 188 -/
theorem B188 : zB 188 = cJ6_bitCount_0f7a4 := rfl
theorem f188_0 : zft 188 0 = some (.iload_n 0, 1) := fet B188 (by decide +kernel) (Or.inr rfl)
theorem f188_1 : zft 188 1 = some (.iload_n 0, 1) := fet B188 (by decide +kernel) (Or.inr rfl)
theorem f188_2 : zft 188 2 = some (.iconst 1, 1) := fet B188 (by decide +kernel) (Or.inr rfl)
theorem f188_3 : zft 188 3 = some (.iushr, 1) := fet B188 (by decide +kernel) (Or.inr rfl)
theorem f188_4 : zft 188 4 = some (.ldc_w 265, 3) := fet B188 (by decide +kernel) (Or.inr rfl)
theorem f188_7 : zft 188 7 = some (.iand, 1) := fet B188 (by decide +kernel) (Or.inr rfl)
theorem f188_8 : zft 188 8 = some (.isub, 1) := fet B188 (by decide +kernel) (Or.inr rfl)
theorem f188_9 : zft 188 9 = some (.istore_n 0, 1) := fet B188 (by decide +kernel) (Or.inr rfl)
theorem f188_10 : zft 188 10 = some (.iload_n 0, 1) := fet B188 (by decide +kernel) (Or.inr rfl)
theorem f188_11 : zft 188 11 = some (.ldc_w 266, 3) := fet B188 (by decide +kernel) (Or.inr rfl)
theorem f188_14 : zft 188 14 = some (.iand, 1) := fet B188 (by decide +kernel) (Or.inr rfl)
theorem f188_15 : zft 188 15 = some (.iload_n 0, 1) := fet B188 (by decide +kernel) (Or.inr rfl)
theorem f188_16 : zft 188 16 = some (.iconst 2, 1) := fet B188 (by decide +kernel) (Or.inr rfl)
theorem f188_17 : zft 188 17 = some (.iushr, 1) := fet B188 (by decide +kernel) (Or.inr rfl)
theorem f188_18 : zft 188 18 = some (.ldc_w 266, 3) := fet B188 (by decide +kernel) (Or.inr rfl)
theorem f188_21 : zft 188 21 = some (.iand, 1) := fet B188 (by decide +kernel) (Or.inr rfl)
theorem f188_22 : zft 188 22 = some (.iadd, 1) := fet B188 (by decide +kernel) (Or.inr rfl)
theorem f188_23 : zft 188 23 = some (.istore_n 0, 1) := fet B188 (by decide +kernel) (Or.inr rfl)
theorem f188_24 : zft 188 24 = some (.iload_n 0, 1) := fet B188 (by decide +kernel) (Or.inr rfl)
theorem f188_25 : zft 188 25 = some (.iload_n 0, 1) := fet B188 (by decide +kernel) (Or.inr rfl)
theorem f188_26 : zft 188 26 = some (.iconst 4, 1) := fet B188 (by decide +kernel) (Or.inr rfl)
theorem f188_27 : zft 188 27 = some (.iushr, 1) := fet B188 (by decide +kernel) (Or.inr rfl)
theorem f188_28 : zft 188 28 = some (.iadd, 1) := fet B188 (by decide +kernel) (Or.inr rfl)
theorem f188_29 : zft 188 29 = some (.ldc_w 267, 3) := fet B188 (by decide +kernel) (Or.inr rfl)
theorem f188_32 : zft 188 32 = some (.iand, 1) := fet B188 (by decide +kernel) (Or.inr rfl)
theorem f188_33 : zft 188 33 = some (.istore_n 0, 1) := fet B188 (by decide +kernel) (Or.inr rfl)
theorem f188_34 : zft 188 34 = some (.iload_n 0, 1) := fet B188 (by decide +kernel) (Or.inr rfl)
theorem f188_35 : zft 188 35 = some (.iload_n 0, 1) := fet B188 (by decide +kernel) (Or.inr rfl)
theorem f188_36 : zft 188 36 = some (.bipush 8, 2) := fet B188 (by decide +kernel) (Or.inr rfl)
theorem f188_38 : zft 188 38 = some (.iushr, 1) := fet B188 (by decide +kernel) (Or.inr rfl)
theorem f188_39 : zft 188 39 = some (.iadd, 1) := fet B188 (by decide +kernel) (Or.inr rfl)
theorem f188_40 : zft 188 40 = some (.istore_n 0, 1) := fet B188 (by decide +kernel) (Or.inr rfl)
theorem f188_41 : zft 188 41 = some (.iload_n 0, 1) := fet B188 (by decide +kernel) (Or.inr rfl)
theorem f188_42 : zft 188 42 = some (.iload_n 0, 1) := fet B188 (by decide +kernel) (Or.inr rfl)
theorem f188_43 : zft 188 43 = some (.bipush 16, 2) := fet B188 (by decide +kernel) (Or.inr rfl)
theorem f188_45 : zft 188 45 = some (.iushr, 1) := fet B188 (by decide +kernel) (Or.inr rfl)
theorem f188_46 : zft 188 46 = some (.iadd, 1) := fet B188 (by decide +kernel) (Or.inr rfl)
theorem f188_47 : zft 188 47 = some (.istore_n 0, 1) := fet B188 (by decide +kernel) (Or.inr rfl)
theorem f188_48 : zft 188 48 = some (.iload_n 0, 1) := fet B188 (by decide +kernel) (Or.inr rfl)
theorem f188_49 : zft 188 49 = some (.bipush 63, 2) := fet B188 (by decide +kernel) (Or.inr rfl)
theorem f188_51 : zft 188 51 = some (.iand, 1) := fet B188 (by decide +kernel) (Or.inr rfl)
theorem f188_52 : zft 188 52 = some (.ireturn, 1) := fet B188 (by decide +kernel) (Or.inr rfl)
theorem x188_0 : Rn S 188 0 [.int a] st I J Q = Rn S 188 1 [.int a] (.int a :: st) I J Q := rL f188_0 rfl rfl
theorem x188_1 : Rn S 188 1 [.int a] st I J Q = Rn S 188 2 [.int a] (.int a :: st) I J Q := rL f188_1 rfl rfl
theorem x188_2 : Rn S 188 2 [v0] st I J Q = Rn S 188 3 [v0] (.int 1 :: st) I J Q := rS f188_2 rfl
theorem x188_3 : Rn S 188 3 [v0] (.int b :: .int a :: st) I J Q = Rn S 188 4 [v0] (.int ((a.toUInt32 >>> (b.toUInt32 &&& Int32.toUInt32 31)).toInt32) :: st) I J Q := rS f188_3 rfl
theorem x188_4 : Rn S 188 4 [v0] st I J Q = Rn S 188 7 [v0] (.int 1431655765 :: st) I J Q := rS f188_4 rfl
theorem x188_7 : Rn S 188 7 [v0] (.int b :: .int a :: st) I J Q = Rn S 188 8 [v0] (.int (a &&& b) :: st) I J Q := rS f188_7 rfl
theorem x188_8 : Rn S 188 8 [v0] (.int b :: .int a :: st) I J Q = Rn S 188 9 [v0] (.int (a - b) :: st) I J Q := rS f188_8 rfl
theorem x188_9 : Rn S 188 9 [v0] (.int a :: st) I J Q = Rn S 188 10 [.int a] st I J Q := rL f188_9 rfl rfl
theorem x188_10 : Rn S 188 10 [.int a] st I J Q = Rn S 188 11 [.int a] (.int a :: st) I J Q := rL f188_10 rfl rfl
theorem x188_11 : Rn S 188 11 [v0] st I J Q = Rn S 188 14 [v0] (.int 858993459 :: st) I J Q := rS f188_11 rfl
theorem x188_14 : Rn S 188 14 [v0] (.int b :: .int a :: st) I J Q = Rn S 188 15 [v0] (.int (a &&& b) :: st) I J Q := rS f188_14 rfl
theorem x188_15 : Rn S 188 15 [.int a] st I J Q = Rn S 188 16 [.int a] (.int a :: st) I J Q := rL f188_15 rfl rfl
theorem x188_16 : Rn S 188 16 [v0] st I J Q = Rn S 188 17 [v0] (.int 2 :: st) I J Q := rS f188_16 rfl
theorem x188_17 : Rn S 188 17 [v0] (.int b :: .int a :: st) I J Q = Rn S 188 18 [v0] (.int ((a.toUInt32 >>> (b.toUInt32 &&& Int32.toUInt32 31)).toInt32) :: st) I J Q := rS f188_17 rfl
theorem x188_18 : Rn S 188 18 [v0] st I J Q = Rn S 188 21 [v0] (.int 858993459 :: st) I J Q := rS f188_18 rfl
theorem x188_21 : Rn S 188 21 [v0] (.int b :: .int a :: st) I J Q = Rn S 188 22 [v0] (.int (a &&& b) :: st) I J Q := rS f188_21 rfl
theorem x188_22 : Rn S 188 22 [v0] (.int b :: .int a :: st) I J Q = Rn S 188 23 [v0] (.int (a + b) :: st) I J Q := rS f188_22 rfl
theorem x188_23 : Rn S 188 23 [v0] (.int a :: st) I J Q = Rn S 188 24 [.int a] st I J Q := rL f188_23 rfl rfl
theorem x188_24 : Rn S 188 24 [.int a] st I J Q = Rn S 188 25 [.int a] (.int a :: st) I J Q := rL f188_24 rfl rfl
theorem x188_25 : Rn S 188 25 [.int a] st I J Q = Rn S 188 26 [.int a] (.int a :: st) I J Q := rL f188_25 rfl rfl
theorem x188_26 : Rn S 188 26 [v0] st I J Q = Rn S 188 27 [v0] (.int 4 :: st) I J Q := rS f188_26 rfl
theorem x188_27 : Rn S 188 27 [v0] (.int b :: .int a :: st) I J Q = Rn S 188 28 [v0] (.int ((a.toUInt32 >>> (b.toUInt32 &&& Int32.toUInt32 31)).toInt32) :: st) I J Q := rS f188_27 rfl
theorem x188_28 : Rn S 188 28 [v0] (.int b :: .int a :: st) I J Q = Rn S 188 29 [v0] (.int (a + b) :: st) I J Q := rS f188_28 rfl
theorem x188_29 : Rn S 188 29 [v0] st I J Q = Rn S 188 32 [v0] (.int 252645135 :: st) I J Q := rS f188_29 rfl
theorem x188_32 : Rn S 188 32 [v0] (.int b :: .int a :: st) I J Q = Rn S 188 33 [v0] (.int (a &&& b) :: st) I J Q := rS f188_32 rfl
theorem x188_33 : Rn S 188 33 [v0] (.int a :: st) I J Q = Rn S 188 34 [.int a] st I J Q := rL f188_33 rfl rfl
theorem x188_34 : Rn S 188 34 [.int a] st I J Q = Rn S 188 35 [.int a] (.int a :: st) I J Q := rL f188_34 rfl rfl
theorem x188_35 : Rn S 188 35 [.int a] st I J Q = Rn S 188 36 [.int a] (.int a :: st) I J Q := rL f188_35 rfl rfl
theorem x188_36 : Rn S 188 36 [v0] st I J Q = Rn S 188 38 [v0] (.int 8 :: st) I J Q := rS f188_36 rfl
theorem x188_38 : Rn S 188 38 [v0] (.int b :: .int a :: st) I J Q = Rn S 188 39 [v0] (.int ((a.toUInt32 >>> (b.toUInt32 &&& Int32.toUInt32 31)).toInt32) :: st) I J Q := rS f188_38 rfl
theorem x188_39 : Rn S 188 39 [v0] (.int b :: .int a :: st) I J Q = Rn S 188 40 [v0] (.int (a + b) :: st) I J Q := rS f188_39 rfl
theorem x188_40 : Rn S 188 40 [v0] (.int a :: st) I J Q = Rn S 188 41 [.int a] st I J Q := rL f188_40 rfl rfl
theorem x188_41 : Rn S 188 41 [.int a] st I J Q = Rn S 188 42 [.int a] (.int a :: st) I J Q := rL f188_41 rfl rfl
theorem x188_42 : Rn S 188 42 [.int a] st I J Q = Rn S 188 43 [.int a] (.int a :: st) I J Q := rL f188_42 rfl rfl
theorem x188_43 : Rn S 188 43 [v0] st I J Q = Rn S 188 45 [v0] (.int 16 :: st) I J Q := rS f188_43 rfl
theorem x188_45 : Rn S 188 45 [v0] (.int b :: .int a :: st) I J Q = Rn S 188 46 [v0] (.int ((a.toUInt32 >>> (b.toUInt32 &&& Int32.toUInt32 31)).toInt32) :: st) I J Q := rS f188_45 rfl
theorem x188_46 : Rn S 188 46 [v0] (.int b :: .int a :: st) I J Q = Rn S 188 47 [v0] (.int (a + b) :: st) I J Q := rS f188_46 rfl
theorem x188_47 : Rn S 188 47 [v0] (.int a :: st) I J Q = Rn S 188 48 [.int a] st I J Q := rL f188_47 rfl rfl
theorem x188_48 : Rn S 188 48 [.int a] st I J Q = Rn S 188 49 [.int a] (.int a :: st) I J Q := rL f188_48 rfl rfl
theorem x188_49 : Rn S 188 49 [v0] st I J Q = Rn S 188 51 [v0] (.int 63 :: st) I J Q := rS f188_49 rfl
theorem x188_51 : Rn S 188 51 [v0] (.int b :: .int a :: st) I J Q = Rn S 188 52 [v0] (.int (a &&& b) :: st) I J Q := rS f188_51 rfl
theorem x188_52 : Rn S 188 52 [v0] [.int a] I J Q = Q (some (.int a)) I J := rR f188_52 rfl rfl rfl rfl rfl
/-! J0.length_8abf5: 189 -/
theorem B189 : zB 189 = cJ0_length_8abf5 := rfl
theorem f189_0 : zft 189 0 = some (.aload_n 0, 1) := fet B189 (by decide +kernel) (Or.inr rfl)
theorem f189_1 : zft 189 1 = some (.getfield 9, 3) := fet B189 (by decide +kernel) (Or.inr rfl)
theorem f189_4 : zft 189 4 = some (.arraylength, 1) := fet B189 (by decide +kernel) (Or.inr rfl)
theorem f189_5 : zft 189 5 = some (.aload_n 0, 1) := fet B189 (by decide +kernel) (Or.inr rfl)
theorem f189_6 : zft 189 6 = some (.invokevirtual 335, 3) := fet B189 (by decide +kernel) (Or.inr rfl)
theorem f189_9 : zft 189 9 = some (.ishr, 1) := fet B189 (by decide +kernel) (Or.inr rfl)
theorem f189_10 : zft 189 10 = some (.ireturn, 1) := fet B189 (by decide +kernel) (Or.inr rfl)
theorem x189_0 : Rn S 189 0 [.ref q] st I J Q = Rn S 189 1 [.ref q] (.ref q :: st) I J Q := rL f189_0 rfl rfl
theorem x189_1 : Rn S 189 1 [v0] (.ref q :: st) I J Q = (zcls S q = 10 ∧ Rn S 189 4 [v0] (.ref (q + 10) :: st) I J Q) := rGs f189_1 rfl rfl
theorem x189_4 : Rn S 189 4 [v0] (.ref q :: st) I J Q = (¬ zkd S q = 99 ∧ Rn S 189 5 [v0] (.int (Int32.ofNat (zln S q)) :: st) I J Q) := rAln f189_4
theorem x189_5 : Rn S 189 5 [.ref q] st I J Q = Rn S 189 6 [.ref q] (.ref q :: st) I J Q := rL f189_5 rfl rfl
theorem x189_6 : Rn S 189 6 [v0] (.ref q :: st) I J Q = ((zcls S q = 10 ∧ zcs st ≤ 8) ∧ Rn S 192 0 [.ref q] [] I J (fun v I' J' => Rn S 189 9 [v0] (v.toList ++ st) I' J' Q)) := rCV (As := []) f189_6 rfl rfl rfl rfl (Nat.le_of_ble_eq_true rfl)
theorem x189_9 : Rn S 189 9 [v0] (.int b :: .int a :: st) I J Q = Rn S 189 10 [v0] (.int (a >>> (b &&& 31)) :: st) I J Q := rS f189_9 rfl
theorem x189_10 : Rn S 189 10 [v0] [.int a] I J Q = Q (some (.int a)) I J := rR f189_10 rfl rfl rfl rfl rfl
/-! J0.indexOf_0f7a4: 190 -/
theorem B190 : zB 190 = cJ0_indexOf_0f7a4 := rfl
theorem f190_0 : zft 190 0 = some (.aload_n 0, 1) := fet B190 (by decide +kernel) (Or.inr rfl)
theorem f190_1 : zft 190 1 = some (.iload_n 1, 1) := fet B190 (by decide +kernel) (Or.inr rfl)
theorem f190_2 : zft 190 2 = some (.iconst 0, 1) := fet B190 (by decide +kernel) (Or.inr rfl)
theorem f190_3 : zft 190 3 = some (.invokevirtual 633, 3) := fet B190 (by decide +kernel) (Or.inr rfl)
theorem f190_6 : zft 190 6 = some (.ireturn, 1) := fet B190 (by decide +kernel) (Or.inr rfl)
theorem x190_0 : Rn S 190 0 [.ref q, v1] st I J Q = Rn S 190 1 [.ref q, v1] (.ref q :: st) I J Q := rL f190_0 rfl rfl
theorem x190_1 : Rn S 190 1 [v0, .int a] st I J Q = Rn S 190 2 [v0, .int a] (.int a :: st) I J Q := rL f190_1 rfl rfl
theorem x190_2 : Rn S 190 2 [v0, v1] st I J Q = Rn S 190 3 [v0, v1] (.int 0 :: st) I J Q := rS f190_2 rfl
theorem x190_3 : Rn S 190 3 [v0, v1] (.int a1 :: .int a0 :: .ref q :: st) I J Q = ((zcls S q = 10 ∧ zcs st ≤ 8) ∧ Rn S 191 0 [.ref q, .int a0, .int a1] [] I J (fun v I' J' => Rn S 190 6 [v0, v1] (v.toList ++ st) I' J' Q)) := rCV (As := [.int a0, .int a1]) f190_3 rfl rfl rfl rfl (Nat.le_of_ble_eq_true rfl)
theorem x190_6 : Rn S 190 6 [v0, v1] [.int a] I J Q = Q (some (.int a)) I J := rR f190_6 rfl rfl rfl rfl rfl
/-! J0.indexOf_7cf53: 191 -/
theorem B191 : zB 191 = cJ0_indexOf_7cf53 := rfl
theorem f191_0 : zft 191 0 = some (.aload_n 0, 1) := fet B191 (by decide +kernel) (Or.inr rfl)
theorem f191_1 : zft 191 1 = some (.invokevirtual 492, 3) := fet B191 (by decide +kernel) (Or.inr rfl)
theorem f191_4 : zft 191 4 = some (.ifCond .eq 19, 3) := fet B191 (by decide +kernel) (Or.inr rfl)
theorem f191_7 : zft 191 7 = some (.aload_n 0, 1) := fet B191 (by decide +kernel) (Or.inr rfl)
theorem f191_8 : zft 191 8 = some (.getfield 9, 3) := fet B191 (by decide +kernel) (Or.inr rfl)
theorem f191_11 : zft 191 11 = some (.iload_n 1, 1) := fet B191 (by decide +kernel) (Or.inr rfl)
theorem f191_12 : zft 191 12 = some (.iload_n 2, 1) := fet B191 (by decide +kernel) (Or.inr rfl)
theorem f191_13 : zft 191 13 = some (.aload_n 0, 1) := fet B191 (by decide +kernel) (Or.inr rfl)
theorem f191_14 : zft 191 14 = some (.invokevirtual 505, 3) := fet B191 (by decide +kernel) (Or.inr rfl)
theorem f191_17 : zft 191 17 = some (.invokestatic 637, 3) := fet B191 (by decide +kernel) (Or.inr rfl)
theorem f191_20 : zft 191 20 = some (.goto 16, 3) := fet B191 (by decide +kernel) (Or.inr rfl)
theorem f191_23 : zft 191 23 = some (.aload_n 0, 1) := fet B191 (by decide +kernel) (Or.inr rfl)
theorem f191_24 : zft 191 24 = some (.getfield 9, 3) := fet B191 (by decide +kernel) (Or.inr rfl)
theorem f191_27 : zft 191 27 = some (.iload_n 1, 1) := fet B191 (by decide +kernel) (Or.inr rfl)
theorem f191_28 : zft 191 28 = some (.iload_n 2, 1) := fet B191 (by decide +kernel) (Or.inr rfl)
theorem f191_29 : zft 191 29 = some (.aload_n 0, 1) := fet B191 (by decide +kernel) (Or.inr rfl)
theorem f191_30 : zft 191 30 = some (.invokevirtual 505, 3) := fet B191 (by decide +kernel) (Or.inr rfl)
theorem f191_33 : zft 191 33 = some (.invokestatic 640, 3) := fet B191 (by decide +kernel) (Or.inr rfl)
theorem f191_36 : zft 191 36 = some (.ireturn, 1) := fet B191 (by decide +kernel) (Or.inr rfl)
theorem x191_0 : Rn S 191 0 [.ref q, v1, v2] st I J Q = Rn S 191 1 [.ref q, v1, v2] (.ref q :: st) I J Q := rL f191_0 rfl rfl
theorem x191_1 : Rn S 191 1 [v0, v1, v2] (.ref q :: st) I J Q = ((zcls S q = 10 ∧ zcs st ≤ 8) ∧ Rn S 193 0 [.ref q] [] I J (fun v I' J' => Rn S 191 4 [v0, v1, v2] (v.toList ++ st) I' J' Q)) := rCV (As := []) f191_1 rfl rfl rfl rfl (Nat.le_of_ble_eq_true rfl)
theorem x191_4 : Rn S 191 4 [v0, v1, v2] (.int a :: st) I J Q = if a = 0 then Rn S 191 23 [v0, v1, v2] st I J Q else Rn S 191 7 [v0, v1, v2] st I J Q := rIeq f191_4 rfl rfl
theorem x191_7 : Rn S 191 7 [.ref q, v1, v2] st I J Q = Rn S 191 8 [.ref q, v1, v2] (.ref q :: st) I J Q := rL f191_7 rfl rfl
theorem x191_8 : Rn S 191 8 [v0, v1, v2] (.ref q :: st) I J Q = (zcls S q = 10 ∧ Rn S 191 11 [v0, v1, v2] (.ref (q + 10) :: st) I J Q) := rGs f191_8 rfl rfl
theorem x191_11 : Rn S 191 11 [v0, .int a, v2] st I J Q = Rn S 191 12 [v0, .int a, v2] (.int a :: st) I J Q := rL f191_11 rfl rfl
theorem x191_12 : Rn S 191 12 [v0, v1, .int a] st I J Q = Rn S 191 13 [v0, v1, .int a] (.int a :: st) I J Q := rL f191_12 rfl rfl
theorem x191_13 : Rn S 191 13 [.ref q, v1, v2] st I J Q = Rn S 191 14 [.ref q, v1, v2] (.ref q :: st) I J Q := rL f191_13 rfl rfl
theorem x191_14 : Rn S 191 14 [v0, v1, v2] (.ref q :: st) I J Q = ((zcls S q = 10 ∧ zcs st ≤ 8) ∧ Rn S 189 0 [.ref q] [] I J (fun v I' J' => Rn S 191 17 [v0, v1, v2] (v.toList ++ st) I' J' Q)) := rCV (As := []) f191_14 rfl rfl rfl rfl (Nat.le_of_ble_eq_true rfl)
theorem x191_17 : Rn S 191 17 [v0, v1, v2] (.int a3 :: .int a2 :: .int a1 :: .ref q0 :: st) I J Q = (zcs st ≤ 8 ∧ Rn S 195 0 [.ref q0, .int a1, .int a2, .int a3] [] I J (fun v I' J' => Rn S 191 20 [v0, v1, v2] (v.toList ++ st) I' J' Q)) := rCS (As := [.ref q0, .int a1, .int a2, .int a3]) f191_17 rfl rfl rfl rfl (Nat.le_of_ble_eq_true rfl)
theorem x191_20 : Rn S 191 20 [v0, v1, v2] st I J Q = Rn S 191 36 [v0, v1, v2] st I J Q := rB f191_20 rfl rfl rfl
theorem x191_23 : Rn S 191 23 [.ref q, v1, v2] st I J Q = Rn S 191 24 [.ref q, v1, v2] (.ref q :: st) I J Q := rL f191_23 rfl rfl
theorem x191_24 : Rn S 191 24 [v0, v1, v2] (.ref q :: st) I J Q = (zcls S q = 10 ∧ Rn S 191 27 [v0, v1, v2] (.ref (q + 10) :: st) I J Q) := rGs f191_24 rfl rfl
theorem x191_27 : Rn S 191 27 [v0, .int a, v2] st I J Q = Rn S 191 28 [v0, .int a, v2] (.int a :: st) I J Q := rL f191_27 rfl rfl
theorem x191_28 : Rn S 191 28 [v0, v1, .int a] st I J Q = Rn S 191 29 [v0, v1, .int a] (.int a :: st) I J Q := rL f191_28 rfl rfl
theorem x191_29 : Rn S 191 29 [.ref q, v1, v2] st I J Q = Rn S 191 30 [.ref q, v1, v2] (.ref q :: st) I J Q := rL f191_29 rfl rfl
theorem x191_30 : Rn S 191 30 [v0, v1, v2] (.ref q :: st) I J Q = ((zcls S q = 10 ∧ zcs st ≤ 8) ∧ Rn S 189 0 [.ref q] [] I J (fun v I' J' => Rn S 191 33 [v0, v1, v2] (v.toList ++ st) I' J' Q)) := rCV (As := []) f191_30 rfl rfl rfl rfl (Nat.le_of_ble_eq_true rfl)
theorem x191_36 : Rn S 191 36 [v0, v1, v2] [.int a] I J Q = Q (some (.int a)) I J := rR f191_36 rfl rfl rfl rfl rfl
/-! J0.coder_7d493: 192 -/
theorem B192 : zB 192 = cJ0_coder_7d493 := rfl
theorem f192_0 : zft 192 0 = some (.getstatic 38, 3) := fet B192 (by decide +kernel) (Or.inr rfl)
theorem f192_3 : zft 192 3 = some (.ifCond .eq 10, 3) := fet B192 (by decide +kernel) (Or.inr rfl)
theorem f192_6 : zft 192 6 = some (.aload_n 0, 1) := fet B192 (by decide +kernel) (Or.inr rfl)
theorem f192_7 : zft 192 7 = some (.getfield 15, 3) := fet B192 (by decide +kernel) (Or.inr rfl)
theorem f192_10 : zft 192 10 = some (.goto 4, 3) := fet B192 (by decide +kernel) (Or.inr rfl)
theorem f192_13 : zft 192 13 = some (.iconst 1, 1) := fet B192 (by decide +kernel) (Or.inr rfl)
theorem f192_14 : zft 192 14 = some (.ireturn, 1) := fet B192 (by decide +kernel) (Or.inr rfl)
theorem x192_0 : Rn S 192 0 [v0] st I J Q = Rn S 192 3 [v0] (.int 1 :: st) I J Q := rS f192_0 rfl
theorem x192_3 : Rn S 192 3 [v0] (.int a :: st) I J Q = if a = 0 then Rn S 192 13 [v0] st I J Q else Rn S 192 6 [v0] st I J Q := rIeq f192_3 rfl rfl
theorem x192_6 : Rn S 192 6 [.ref q] st I J Q = Rn S 192 7 [.ref q] (.ref q :: st) I J Q := rL f192_6 rfl rfl
theorem x192_7 : Rn S 192 7 [v0] (.ref q :: st) I J Q = (zcls S q = 10 ∧ Rn S 192 10 [v0] (.int 0 :: st) I J Q) := rGt f192_7 rfl rfl
theorem x192_10 : Rn S 192 10 [v0] st I J Q = Rn S 192 14 [v0] st I J Q := rB f192_10 rfl rfl rfl
theorem x192_13 : Rn S 192 13 [v0] st I J Q = Rn S 192 14 [v0] (.int 1 :: st) I J Q := rS f192_13 rfl
theorem x192_14 : Rn S 192 14 [v0] [.int a] I J Q = ((a = 0 ∨ a = 1) ∧ Q (some (.int a)) I J) := rRZ f192_14 (Or.inr rfl)
/-! J0.isLatin1_aae02: 193 -/
theorem B193 : zB 193 = cJ0_isLatin1_aae02 := rfl
theorem f193_0 : zft 193 0 = some (.getstatic 38, 3) := fet B193 (by decide +kernel) (Or.inr rfl)
theorem f193_3 : zft 193 3 = some (.ifCond .eq 14, 3) := fet B193 (by decide +kernel) (Or.inr rfl)
theorem f193_6 : zft 193 6 = some (.aload_n 0, 1) := fet B193 (by decide +kernel) (Or.inr rfl)
theorem f193_7 : zft 193 7 = some (.getfield 15, 3) := fet B193 (by decide +kernel) (Or.inr rfl)
theorem f193_10 : zft 193 10 = some (.ifCond .ne 7, 3) := fet B193 (by decide +kernel) (Or.inr rfl)
theorem f193_13 : zft 193 13 = some (.iconst 1, 1) := fet B193 (by decide +kernel) (Or.inr rfl)
theorem f193_14 : zft 193 14 = some (.goto 4, 3) := fet B193 (by decide +kernel) (Or.inr rfl)
theorem f193_17 : zft 193 17 = some (.iconst 0, 1) := fet B193 (by decide +kernel) (Or.inr rfl)
theorem f193_18 : zft 193 18 = some (.ireturn, 1) := fet B193 (by decide +kernel) (Or.inr rfl)
theorem x193_0 : Rn S 193 0 [v0] st I J Q = Rn S 193 3 [v0] (.int 1 :: st) I J Q := rS f193_0 rfl
theorem x193_3 : Rn S 193 3 [v0] (.int a :: st) I J Q = if a = 0 then Rn S 193 17 [v0] st I J Q else Rn S 193 6 [v0] st I J Q := rIeq f193_3 rfl rfl
theorem x193_6 : Rn S 193 6 [.ref q] st I J Q = Rn S 193 7 [.ref q] (.ref q :: st) I J Q := rL f193_6 rfl rfl
theorem x193_7 : Rn S 193 7 [v0] (.ref q :: st) I J Q = (zcls S q = 10 ∧ Rn S 193 10 [v0] (.int 0 :: st) I J Q) := rGt f193_7 rfl rfl
theorem x193_10 : Rn S 193 10 [v0] (.int a :: st) I J Q = if a = 0 then Rn S 193 13 [v0] st I J Q else Rn S 193 17 [v0] st I J Q := rIne f193_10 rfl rfl
theorem x193_13 : Rn S 193 13 [v0] st I J Q = Rn S 193 14 [v0] (.int 1 :: st) I J Q := rS f193_13 rfl
theorem x193_14 : Rn S 193 14 [v0] st I J Q = Rn S 193 18 [v0] st I J Q := rB f193_14 rfl rfl rfl
theorem x193_17 : Rn S 193 17 [v0] st I J Q = Rn S 193 18 [v0] (.int 0 :: st) I J Q := rS f193_17 rfl
theorem x193_18 : Rn S 193 18 [v0] [.int a] I J Q = ((a = 0 ∨ a = 1) ∧ Q (some (.int a)) I J) := rRZ f193_18 (Or.inl rfl)
/-! J1.canEncode_9a6ad: 194 -/
theorem B194 : zB 194 = cJ1_canEncode_9a6ad := rfl
theorem f194_0 : zft 194 0 = some (.iload_n 0, 1) := fet B194 (by decide +kernel) (Or.inr rfl)
theorem f194_1 : zft 194 1 = some (.ifCond .lt 14, 3) := fet B194 (by decide +kernel) (Or.inr rfl)
theorem f194_4 : zft 194 4 = some (.iload_n 0, 1) := fet B194 (by decide +kernel) (Or.inr rfl)
theorem f194_5 : zft 194 5 = some (.sipush 255, 3) := fet B194 (by decide +kernel) (Or.inr rfl)
theorem f194_8 : zft 194 8 = some (.if_icmp .gt 7, 3) := fet B194 (by decide +kernel) (Or.inr rfl)
theorem f194_11 : zft 194 11 = some (.iconst 1, 1) := fet B194 (by decide +kernel) (Or.inr rfl)
theorem f194_12 : zft 194 12 = some (.goto 4, 3) := fet B194 (by decide +kernel) (Or.inr rfl)
theorem f194_15 : zft 194 15 = some (.iconst 0, 1) := fet B194 (by decide +kernel) (Or.inr rfl)
theorem f194_16 : zft 194 16 = some (.ireturn, 1) := fet B194 (by decide +kernel) (Or.inr rfl)
theorem x194_0 : Rn S 194 0 [.int a] st I J Q = Rn S 194 1 [.int a] (.int a :: st) I J Q := rL f194_0 rfl rfl
theorem x194_1 : Rn S 194 1 [v0] (.int a :: st) I J Q = if a < 0 then Rn S 194 15 [v0] st I J Q else Rn S 194 4 [v0] st I J Q := rIlt f194_1 rfl rfl
theorem x194_4 : Rn S 194 4 [.int a] st I J Q = Rn S 194 5 [.int a] (.int a :: st) I J Q := rL f194_4 rfl rfl
theorem x194_5 : Rn S 194 5 [v0] st I J Q = Rn S 194 8 [v0] (.int 255 :: st) I J Q := rS f194_5 rfl
theorem x194_8 : Rn S 194 8 [v0] (.int b :: .int a :: st) I J Q = if b < a then Rn S 194 15 [v0] st I J Q else Rn S 194 11 [v0] st I J Q := rCgt f194_8 rfl rfl
theorem x194_11 : Rn S 194 11 [v0] st I J Q = Rn S 194 12 [v0] (.int 1 :: st) I J Q := rS f194_11 rfl
theorem x194_12 : Rn S 194 12 [v0] st I J Q = Rn S 194 16 [v0] st I J Q := rB f194_12 rfl rfl rfl
theorem x194_15 : Rn S 194 15 [v0] st I J Q = Rn S 194 16 [v0] (.int 0 :: st) I J Q := rS f194_15 rfl
theorem x194_16 : Rn S 194 16 [v0] [.int a] I J Q = ((a = 0 ∨ a = 1) ∧ Q (some (.int a)) I J) := rRZ f194_16 (Or.inl rfl)
/-! J1.indexOf_4cfef: 195 -/
theorem B195 : zB 195 = cJ1_indexOf_4cfef := rfl
theorem f195_0 : zft 195 0 = some (.iload_n 1, 1) := fet B195 (by decide +kernel) (Or.inr rfl)
theorem f195_1 : zft 195 1 = some (.invokestatic 88, 3) := fet B195 (by decide +kernel) (Or.inr rfl)
theorem f195_4 : zft 195 4 = some (.ifCond .ne 5, 3) := fet B195 (by decide +kernel) (Or.inr rfl)
theorem f195_7 : zft 195 7 = some (.iconst (-1), 1) := fet B195 (by decide +kernel) (Or.inr rfl)
theorem f195_8 : zft 195 8 = some (.ireturn, 1) := fet B195 (by decide +kernel) (Or.inr rfl)
theorem f195_9 : zft 195 9 = some (.iload_n 2, 1) := fet B195 (by decide +kernel) (Or.inr rfl)
theorem f195_10 : zft 195 10 = some (.iconst 0, 1) := fet B195 (by decide +kernel) (Or.inr rfl)
theorem f195_11 : zft 195 11 = some (.invokestatic 92, 3) := fet B195 (by decide +kernel) (Or.inr rfl)
theorem f195_14 : zft 195 14 = some (.istore_n 2, 1) := fet B195 (by decide +kernel) (Or.inr rfl)
theorem f195_15 : zft 195 15 = some (.iload_n 3, 1) := fet B195 (by decide +kernel) (Or.inr rfl)
theorem f195_16 : zft 195 16 = some (.aload_n 0, 1) := fet B195 (by decide +kernel) (Or.inr rfl)
theorem f195_17 : zft 195 17 = some (.arraylength, 1) := fet B195 (by decide +kernel) (Or.inr rfl)
theorem f195_18 : zft 195 18 = some (.invokestatic 38, 3) := fet B195 (by decide +kernel) (Or.inr rfl)
theorem f195_21 : zft 195 21 = some (.istore_n 3, 1) := fet B195 (by decide +kernel) (Or.inr rfl)
theorem f195_22 : zft 195 22 = some (.iload_n 2, 1) := fet B195 (by decide +kernel) (Or.inr rfl)
theorem f195_23 : zft 195 23 = some (.iload_n 3, 1) := fet B195 (by decide +kernel) (Or.inr rfl)
theorem f195_24 : zft 195 24 = some (.if_icmp .lt 5, 3) := fet B195 (by decide +kernel) (Or.inr rfl)
theorem f195_27 : zft 195 27 = some (.iconst (-1), 1) := fet B195 (by decide +kernel) (Or.inr rfl)
theorem f195_28 : zft 195 28 = some (.ireturn, 1) := fet B195 (by decide +kernel) (Or.inr rfl)
theorem f195_29 : zft 195 29 = some (.aload_n 0, 1) := fet B195 (by decide +kernel) (Or.inr rfl)
theorem f195_30 : zft 195 30 = some (.iload_n 1, 1) := fet B195 (by decide +kernel) (Or.inr rfl)
theorem f195_31 : zft 195 31 = some (.iload_n 2, 1) := fet B195 (by decide +kernel) (Or.inr rfl)
theorem f195_32 : zft 195 32 = some (.iload_n 3, 1) := fet B195 (by decide +kernel) (Or.inr rfl)
theorem f195_33 : zft 195 33 = some (.invokestatic 95, 3) := fet B195 (by decide +kernel) (Or.inr rfl)
theorem f195_36 : zft 195 36 = some (.ireturn, 1) := fet B195 (by decide +kernel) (Or.inr rfl)
theorem x195_0 : Rn S 195 0 [v0, .int a, v2, v3] st I J Q = Rn S 195 1 [v0, .int a, v2, v3] (.int a :: st) I J Q := rL f195_0 rfl rfl
theorem x195_1 : Rn S 195 1 [v0, v1, v2, v3] (.int a0 :: st) I J Q = (zcs st ≤ 8 ∧ Rn S 194 0 [.int a0] [] I J (fun v I' J' => Rn S 195 4 [v0, v1, v2, v3] (v.toList ++ st) I' J' Q)) := rCS (As := [.int a0]) f195_1 rfl rfl rfl rfl (Nat.le_of_ble_eq_true rfl)
theorem x195_4 : Rn S 195 4 [v0, v1, v2, v3] (.int a :: st) I J Q = if a = 0 then Rn S 195 7 [v0, v1, v2, v3] st I J Q else Rn S 195 9 [v0, v1, v2, v3] st I J Q := rIne f195_4 rfl rfl
theorem x195_7 : Rn S 195 7 [v0, v1, v2, v3] st I J Q = Rn S 195 8 [v0, v1, v2, v3] (.int (-1) :: st) I J Q := rS f195_7 rfl
theorem x195_8 : Rn S 195 8 [v0, v1, v2, v3] [.int a] I J Q = Q (some (.int a)) I J := rR f195_8 rfl rfl rfl rfl rfl
theorem x195_9 : Rn S 195 9 [v0, v1, .int a, v3] st I J Q = Rn S 195 10 [v0, v1, .int a, v3] (.int a :: st) I J Q := rL f195_9 rfl rfl
theorem x195_10 : Rn S 195 10 [v0, v1, v2, v3] st I J Q = Rn S 195 11 [v0, v1, v2, v3] (.int 0 :: st) I J Q := rS f195_10 rfl
theorem x195_11 : Rn S 195 11 [v0, v1, v2, v3] (.int b :: .int a :: st) I J Q = (zcs st ≤ 8 ∧ Rn S 195 14 [v0, v1, v2, v3] (.int (if a < b then b else a) :: st) I J Q) := rMx f195_11 rfl rfl ⟨Nat.le_of_ble_eq_true rfl, Nat.le_of_ble_eq_true rfl⟩
theorem x195_14 : Rn S 195 14 [v0, v1, v2, v3] (.int a :: st) I J Q = Rn S 195 15 [v0, zkl v1, .int a, v3] st I J Q := rL f195_14 rfl rfl
theorem x195_15 : Rn S 195 15 [v0, v1, v2, .int a] st I J Q = Rn S 195 16 [v0, v1, v2, .int a] (.int a :: st) I J Q := rL f195_15 rfl rfl
theorem x195_16 : Rn S 195 16 [.ref q, v1, v2, v3] st I J Q = Rn S 195 17 [.ref q, v1, v2, v3] (.ref q :: st) I J Q := rL f195_16 rfl rfl
theorem x195_17 : Rn S 195 17 [v0, v1, v2, v3] (.ref q :: st) I J Q = (¬ zkd S q = 99 ∧ Rn S 195 18 [v0, v1, v2, v3] (.int (Int32.ofNat (zln S q)) :: st) I J Q) := rAln f195_17
theorem x195_18 : Rn S 195 18 [v0, v1, v2, v3] (.int b :: .int a :: st) I J Q = (zcs st ≤ 8 ∧ Rn S 195 21 [v0, v1, v2, v3] (.int (if a ≤ b then a else b) :: st) I J Q) := rMn f195_18 rfl rfl ⟨Nat.le_of_ble_eq_true rfl, Nat.le_of_ble_eq_true rfl⟩
theorem x195_21 : Rn S 195 21 [v0, v1, v2, v3] (.int a :: st) I J Q = Rn S 195 22 [v0, v1, zkl v2, .int a] st I J Q := rL f195_21 rfl rfl
theorem x195_22 : Rn S 195 22 [v0, v1, .int a, v3] st I J Q = Rn S 195 23 [v0, v1, .int a, v3] (.int a :: st) I J Q := rL f195_22 rfl rfl
theorem x195_23 : Rn S 195 23 [v0, v1, v2, .int a] st I J Q = Rn S 195 24 [v0, v1, v2, .int a] (.int a :: st) I J Q := rL f195_23 rfl rfl
theorem x195_24 : Rn S 195 24 [v0, v1, v2, v3] (.int b :: .int a :: st) I J Q = if a < b then Rn S 195 29 [v0, v1, v2, v3] st I J Q else Rn S 195 27 [v0, v1, v2, v3] st I J Q := rClt f195_24 rfl rfl
theorem x195_27 : Rn S 195 27 [v0, v1, v2, v3] st I J Q = Rn S 195 28 [v0, v1, v2, v3] (.int (-1) :: st) I J Q := rS f195_27 rfl
theorem x195_28 : Rn S 195 28 [v0, v1, v2, v3] [.int a] I J Q = Q (some (.int a)) I J := rR f195_28 rfl rfl rfl rfl rfl
theorem x195_29 : Rn S 195 29 [.ref q, v1, v2, v3] st I J Q = Rn S 195 30 [.ref q, v1, v2, v3] (.ref q :: st) I J Q := rL f195_29 rfl rfl
theorem x195_30 : Rn S 195 30 [v0, .int a, v2, v3] st I J Q = Rn S 195 31 [v0, .int a, v2, v3] (.int a :: st) I J Q := rL f195_30 rfl rfl
theorem x195_31 : Rn S 195 31 [v0, v1, .int a, v3] st I J Q = Rn S 195 32 [v0, v1, .int a, v3] (.int a :: st) I J Q := rL f195_31 rfl rfl
theorem x195_32 : Rn S 195 32 [v0, v1, v2, .int a] st I J Q = Rn S 195 33 [v0, v1, v2, .int a] (.int a :: st) I J Q := rL f195_32 rfl rfl
theorem x195_33 : Rn S 195 33 [v0, v1, v2, v3] (.int a3 :: .int a2 :: .int a1 :: .ref q0 :: st) I J Q = (zcs st ≤ 8 ∧ Rn S 196 0 [.ref q0, .int a1, .int a2, .int a3, .null, .null] [] I J (fun v I' J' => Rn S 195 36 [v0, v1, v2, v3] (v.toList ++ st) I' J' Q)) := rCS (As := [.ref q0, .int a1, .int a2, .int a3]) f195_33 rfl rfl rfl rfl (Nat.le_of_ble_eq_true rfl)
theorem x195_36 : Rn S 195 36 [v0, v1, v2, v3] [.int a] I J Q = Q (some (.int a)) I J := rR f195_36 rfl rfl rfl rfl rfl
/-! J1.indexOfChar_4cfef: 196 -/
theorem B196 : zB 196 = cJ1_indexOfChar_4cfef := rfl
theorem f196_0 : zft 196 0 = some (.iload_n 1, 1) := fet B196 (by decide +kernel) (Or.inr rfl)
theorem f196_1 : zft 196 1 = some (.i2b, 1) := fet B196 (by decide +kernel) (Or.inr rfl)
theorem f196_2 : zft 196 2 = some (.istore 4, 2) := fet B196 (by decide +kernel) (Or.inr rfl)
theorem f196_4 : zft 196 4 = some (.iload_n 2, 1) := fet B196 (by decide +kernel) (Or.inr rfl)
theorem f196_5 : zft 196 5 = some (.istore 5, 2) := fet B196 (by decide +kernel) (Or.inr rfl)
theorem f196_7 : zft 196 7 = some (.iload 5, 2) := fet B196 (by decide +kernel) (Or.inr rfl)
theorem f196_9 : zft 196 9 = some (.iload_n 3, 1) := fet B196 (by decide +kernel) (Or.inr rfl)
theorem f196_10 : zft 196 10 = some (.if_icmp .ge 21, 3) := fet B196 (by decide +kernel) (Or.inr rfl)
theorem f196_13 : zft 196 13 = some (.aload_n 0, 1) := fet B196 (by decide +kernel) (Or.inr rfl)
theorem f196_14 : zft 196 14 = some (.iload 5, 2) := fet B196 (by decide +kernel) (Or.inr rfl)
theorem f196_16 : zft 196 16 = some (.baload, 1) := fet B196 (by decide +kernel) (Or.inr rfl)
theorem f196_17 : zft 196 17 = some (.iload 4, 2) := fet B196 (by decide +kernel) (Or.inr rfl)
theorem f196_19 : zft 196 19 = some (.if_icmp .ne 6, 3) := fet B196 (by decide +kernel) (Or.inr rfl)
theorem f196_22 : zft 196 22 = some (.iload 5, 2) := fet B196 (by decide +kernel) (Or.inr rfl)
theorem f196_24 : zft 196 24 = some (.ireturn, 1) := fet B196 (by decide +kernel) (Or.inr rfl)
theorem f196_25 : zft 196 25 = some (.iinc 5 1, 3) := fet B196 (by decide +kernel) (Or.inr rfl)
theorem f196_28 : zft 196 28 = some (.goto (-21), 3) := fet B196 (by decide +kernel) (Or.inr rfl)
theorem f196_31 : zft 196 31 = some (.iconst (-1), 1) := fet B196 (by decide +kernel) (Or.inr rfl)
theorem f196_32 : zft 196 32 = some (.ireturn, 1) := fet B196 (by decide +kernel) (Or.inr rfl)
theorem x196_0 : Rn S 196 0 [v0, .int a, v2, v3, v4, v5] st I J Q = Rn S 196 1 [v0, .int a, v2, v3, v4, v5] (.int a :: st) I J Q := rL f196_0 rfl rfl
theorem x196_1 : Rn S 196 1 [v0, v1, v2, v3, v4, v5] (.int a :: st) I J Q = Rn S 196 2 [v0, v1, v2, v3, v4, v5] (.int a.toInt8.toInt32 :: st) I J Q := rS f196_1 rfl
theorem x196_2 : Rn S 196 2 [v0, v1, v2, v3, v4, v5] (.int a :: st) I J Q = Rn S 196 4 [v0, v1, v2, zkl v3, .int a, v5] st I J Q := rL f196_2 rfl rfl
theorem x196_4 : Rn S 196 4 [v0, v1, .int a, v3, v4, v5] st I J Q = Rn S 196 5 [v0, v1, .int a, v3, v4, v5] (.int a :: st) I J Q := rL f196_4 rfl rfl
theorem x196_5 : Rn S 196 5 [v0, v1, v2, v3, v4, v5] (.int a :: st) I J Q = Rn S 196 7 [v0, v1, v2, v3, zkl v4, .int a] st I J Q := rL f196_5 rfl rfl
theorem h196_7 : Rn S 196 7 [v0, v1, v2, v3, v4, .int a] st I J Q = Rn S 196 9 [v0, v1, v2, v3, v4, .int a] (.int a :: st) I J Q := rL f196_7 rfl rfl
theorem x196_9 : Rn S 196 9 [v0, v1, v2, .int a, v4, v5] st I J Q = Rn S 196 10 [v0, v1, v2, .int a, v4, v5] (.int a :: st) I J Q := rL f196_9 rfl rfl
theorem x196_10 : Rn S 196 10 [v0, v1, v2, v3, v4, v5] (.int b :: .int a :: st) I J Q = if a < b then Rn S 196 13 [v0, v1, v2, v3, v4, v5] st I J Q else Rn S 196 31 [v0, v1, v2, v3, v4, v5] st I J Q := rCge f196_10 rfl rfl
theorem x196_13 : Rn S 196 13 [.ref q, v1, v2, v3, v4, v5] st I J Q = Rn S 196 14 [.ref q, v1, v2, v3, v4, v5] (.ref q :: st) I J Q := rL f196_13 rfl rfl
theorem x196_14 : Rn S 196 14 [v0, v1, v2, v3, v4, .int a] st I J Q = Rn S 196 16 [v0, v1, v2, v3, v4, .int a] (.int a :: st) I J Q := rL f196_14 rfl rfl
theorem x196_16 : Rn S 196 16 [v0, v1, v2, v3, v4, v5] (.int a :: .ref q :: st) I J Q = (zab S q a ∧ Rn S 196 17 [v0, v1, v2, v3, v4, v5] (.int (zbv S I q a.toNatClampNeg) :: st) I J Q) := rBal f196_16
theorem x196_17 : Rn S 196 17 [v0, v1, v2, v3, .int a, v5] st I J Q = Rn S 196 19 [v0, v1, v2, v3, .int a, v5] (.int a :: st) I J Q := rL f196_17 rfl rfl
theorem x196_19 : Rn S 196 19 [v0, v1, v2, v3, v4, v5] (.int b :: .int a :: st) I J Q = if a = b then Rn S 196 22 [v0, v1, v2, v3, v4, v5] st I J Q else Rn S 196 25 [v0, v1, v2, v3, v4, v5] st I J Q := rCne f196_19 rfl rfl
theorem x196_22 : Rn S 196 22 [v0, v1, v2, v3, v4, .int a] st I J Q = Rn S 196 24 [v0, v1, v2, v3, v4, .int a] (.int a :: st) I J Q := rL f196_22 rfl rfl
theorem x196_24 : Rn S 196 24 [v0, v1, v2, v3, v4, v5] [.int a] I J Q = Q (some (.int a)) I J := rR f196_24 rfl rfl rfl rfl rfl
theorem x196_25 : Rn S 196 25 [v0, v1, v2, v3, v4, .int a] st I J Q = Rn S 196 28 [v0, v1, v2, v3, zkl v4, .int (a + 1)] st I J Q := rL f196_25 rfl rfl
theorem x196_28 : Rn S 196 28 [v0, v1, v2, v3, v4, v5] st I J Q = Rn S 196 7 [v0, v1, v2, v3, v4, v5] st I J Q := rB f196_28 rfl rfl rfl
theorem x196_31 : Rn S 196 31 [v0, v1, v2, v3, v4, v5] st I J Q = Rn S 196 32 [v0, v1, v2, v3, v4, v5] (.int (-1) :: st) I J Q := rS f196_31 rfl
theorem x196_32 : Rn S 196 32 [v0, v1, v2, v3, v4, v5] [.int a] I J Q = Q (some (.int a)) I J := rR f196_32 rfl rfl rfl rfl rfl
/-! J7.fill_d0a16: 197 -/
theorem B197 : zB 197 = cJ7_fill_d0a16 := rfl
theorem f197_0 : zft 197 0 = some (.iconst 0, 1) := fet B197 (by decide +kernel) (Or.inr rfl)
theorem f197_1 : zft 197 1 = some (.istore_n 3, 1) := fet B197 (by decide +kernel) (Or.inr rfl)
theorem f197_2 : zft 197 2 = some (.aload_n 0, 1) := fet B197 (by decide +kernel) (Or.inr rfl)
theorem f197_3 : zft 197 3 = some (.arraylength, 1) := fet B197 (by decide +kernel) (Or.inr rfl)
theorem f197_4 : zft 197 4 = some (.istore 4, 2) := fet B197 (by decide +kernel) (Or.inr rfl)
theorem f197_6 : zft 197 6 = some (.iload_n 3, 1) := fet B197 (by decide +kernel) (Or.inr rfl)
theorem f197_7 : zft 197 7 = some (.iload 4, 2) := fet B197 (by decide +kernel) (Or.inr rfl)
theorem f197_9 : zft 197 9 = some (.if_icmp .ge 13, 3) := fet B197 (by decide +kernel) (Or.inr rfl)
theorem f197_12 : zft 197 12 = some (.aload_n 0, 1) := fet B197 (by decide +kernel) (Or.inr rfl)
theorem f197_13 : zft 197 13 = some (.iload_n 3, 1) := fet B197 (by decide +kernel) (Or.inr rfl)
theorem f197_14 : zft 197 14 = some (.lload_n 1, 1) := fet B197 (by decide +kernel) (Or.inr rfl)
theorem f197_15 : zft 197 15 = some (.lastore, 1) := fet B197 (by decide +kernel) (Or.inr rfl)
theorem f197_16 : zft 197 16 = some (.iinc 3 1, 3) := fet B197 (by decide +kernel) (Or.inr rfl)
theorem f197_19 : zft 197 19 = some (.goto (-13), 3) := fet B197 (by decide +kernel) (Or.inr rfl)
theorem f197_22 : zft 197 22 = some (.return_, 1) := fet B197 (by decide +kernel) (Or.inr rfl)
theorem x197_0 : Rn S 197 0 [v0, v1, v2, v3, v4] st I J Q = Rn S 197 1 [v0, v1, v2, v3, v4] (.int 0 :: st) I J Q := rS f197_0 rfl
theorem x197_1 : Rn S 197 1 [v0, v1, v2, v3, v4] (.int a :: st) I J Q = Rn S 197 2 [v0, v1, zkl v2, .int a, v4] st I J Q := rL f197_1 rfl rfl
theorem x197_2 : Rn S 197 2 [.ref q, v1, v2, v3, v4] st I J Q = Rn S 197 3 [.ref q, v1, v2, v3, v4] (.ref q :: st) I J Q := rL f197_2 rfl rfl
theorem x197_3 : Rn S 197 3 [v0, v1, v2, v3, v4] (.ref q :: st) I J Q = (¬ zkd S q = 99 ∧ Rn S 197 4 [v0, v1, v2, v3, v4] (.int (Int32.ofNat (zln S q)) :: st) I J Q) := rAln f197_3
theorem x197_4 : Rn S 197 4 [v0, v1, v2, v3, v4] (.int a :: st) I J Q = Rn S 197 6 [v0, v1, v2, zkl v3, .int a] st I J Q := rL f197_4 rfl rfl
theorem h197_6 : Rn S 197 6 [v0, v1, v2, .int a, v4] st I J Q = Rn S 197 7 [v0, v1, v2, .int a, v4] (.int a :: st) I J Q := rL f197_6 rfl rfl
theorem x197_7 : Rn S 197 7 [v0, v1, v2, v3, .int a] st I J Q = Rn S 197 9 [v0, v1, v2, v3, .int a] (.int a :: st) I J Q := rL f197_7 rfl rfl
theorem x197_9 : Rn S 197 9 [v0, v1, v2, v3, v4] (.int b :: .int a :: st) I J Q = if a < b then Rn S 197 12 [v0, v1, v2, v3, v4] st I J Q else Rn S 197 22 [v0, v1, v2, v3, v4] st I J Q := rCge f197_9 rfl rfl
theorem x197_12 : Rn S 197 12 [.ref q, v1, v2, v3, v4] st I J Q = Rn S 197 13 [.ref q, v1, v2, v3, v4] (.ref q :: st) I J Q := rL f197_12 rfl rfl
theorem x197_13 : Rn S 197 13 [v0, v1, v2, .int a, v4] st I J Q = Rn S 197 14 [v0, v1, v2, .int a, v4] (.int a :: st) I J Q := rL f197_13 rfl rfl
theorem x197_14 : Rn S 197 14 [v0, .long u, v2, v3, v4] st I J Q = Rn S 197 15 [v0, .long u, v2, v3, v4] (.long u :: st) I J Q := rL f197_14 rfl rfl
theorem x197_15 : Rn S 197 15 [v0, v1, v2, v3, v4] (.long u :: .int a :: .ref q :: st) I J Q = (zaj S q a ∧ Rn S 197 16 [v0, v1, v2, v3, v4] st I (zr J q (vp_updL (J q) a.toNatClampNeg u)) Q) := rLas f197_15
theorem x197_16 : Rn S 197 16 [v0, v1, v2, .int a, v4] st I J Q = Rn S 197 19 [v0, v1, zkl v2, .int (a + 1), v4] st I J Q := rL f197_16 rfl rfl
theorem x197_19 : Rn S 197 19 [v0, v1, v2, v3, v4] st I J Q = Rn S 197 6 [v0, v1, v2, v3, v4] st I J Q := rB f197_19 rfl rfl rfl
theorem x197_22 : Rn S 197 22 [v0, v1, v2, v3, v4] [] I J Q = Q none I J := rR f197_22 rfl rfl rfl rfl rfl
/-! J7.fill_53178: 198 -/
theorem B198 : zB 198 = cJ7_fill_53178 := rfl
theorem f198_0 : zft 198 0 = some (.iconst 0, 1) := fet B198 (by decide +kernel) (Or.inr rfl)
theorem f198_1 : zft 198 1 = some (.istore_n 2, 1) := fet B198 (by decide +kernel) (Or.inr rfl)
theorem f198_2 : zft 198 2 = some (.aload_n 0, 1) := fet B198 (by decide +kernel) (Or.inr rfl)
theorem f198_3 : zft 198 3 = some (.arraylength, 1) := fet B198 (by decide +kernel) (Or.inr rfl)
theorem f198_4 : zft 198 4 = some (.istore_n 3, 1) := fet B198 (by decide +kernel) (Or.inr rfl)
theorem f198_5 : zft 198 5 = some (.iload_n 2, 1) := fet B198 (by decide +kernel) (Or.inr rfl)
theorem f198_6 : zft 198 6 = some (.iload_n 3, 1) := fet B198 (by decide +kernel) (Or.inr rfl)
theorem f198_7 : zft 198 7 = some (.if_icmp .ge 13, 3) := fet B198 (by decide +kernel) (Or.inr rfl)
theorem f198_10 : zft 198 10 = some (.aload_n 0, 1) := fet B198 (by decide +kernel) (Or.inr rfl)
theorem f198_11 : zft 198 11 = some (.iload_n 2, 1) := fet B198 (by decide +kernel) (Or.inr rfl)
theorem f198_12 : zft 198 12 = some (.iload_n 1, 1) := fet B198 (by decide +kernel) (Or.inr rfl)
theorem f198_13 : zft 198 13 = some (.iastore, 1) := fet B198 (by decide +kernel) (Or.inr rfl)
theorem f198_14 : zft 198 14 = some (.iinc 2 1, 3) := fet B198 (by decide +kernel) (Or.inr rfl)
theorem f198_17 : zft 198 17 = some (.goto (-12), 3) := fet B198 (by decide +kernel) (Or.inr rfl)
theorem f198_20 : zft 198 20 = some (.return_, 1) := fet B198 (by decide +kernel) (Or.inr rfl)
theorem x198_0 : Rn S 198 0 [v0, v1, v2, v3] st I J Q = Rn S 198 1 [v0, v1, v2, v3] (.int 0 :: st) I J Q := rS f198_0 rfl
theorem x198_1 : Rn S 198 1 [v0, v1, v2, v3] (.int a :: st) I J Q = Rn S 198 2 [v0, zkl v1, .int a, v3] st I J Q := rL f198_1 rfl rfl
theorem x198_2 : Rn S 198 2 [.ref q, v1, v2, v3] st I J Q = Rn S 198 3 [.ref q, v1, v2, v3] (.ref q :: st) I J Q := rL f198_2 rfl rfl
theorem x198_3 : Rn S 198 3 [v0, v1, v2, v3] (.ref q :: st) I J Q = (¬ zkd S q = 99 ∧ Rn S 198 4 [v0, v1, v2, v3] (.int (Int32.ofNat (zln S q)) :: st) I J Q) := rAln f198_3
theorem x198_4 : Rn S 198 4 [v0, v1, v2, v3] (.int a :: st) I J Q = Rn S 198 5 [v0, v1, zkl v2, .int a] st I J Q := rL f198_4 rfl rfl
theorem h198_5 : Rn S 198 5 [v0, v1, .int a, v3] st I J Q = Rn S 198 6 [v0, v1, .int a, v3] (.int a :: st) I J Q := rL f198_5 rfl rfl
theorem x198_6 : Rn S 198 6 [v0, v1, v2, .int a] st I J Q = Rn S 198 7 [v0, v1, v2, .int a] (.int a :: st) I J Q := rL f198_6 rfl rfl
theorem x198_7 : Rn S 198 7 [v0, v1, v2, v3] (.int b :: .int a :: st) I J Q = if a < b then Rn S 198 10 [v0, v1, v2, v3] st I J Q else Rn S 198 20 [v0, v1, v2, v3] st I J Q := rCge f198_7 rfl rfl
theorem x198_10 : Rn S 198 10 [.ref q, v1, v2, v3] st I J Q = Rn S 198 11 [.ref q, v1, v2, v3] (.ref q :: st) I J Q := rL f198_10 rfl rfl
theorem x198_11 : Rn S 198 11 [v0, v1, .int a, v3] st I J Q = Rn S 198 12 [v0, v1, .int a, v3] (.int a :: st) I J Q := rL f198_11 rfl rfl
theorem x198_12 : Rn S 198 12 [v0, .int a, v2, v3] st I J Q = Rn S 198 13 [v0, .int a, v2, v3] (.int a :: st) I J Q := rL f198_12 rfl rfl
theorem x198_13 : Rn S 198 13 [v0, v1, v2, v3] (.int b :: .int a :: .ref q :: st) I J Q = (zas S q a ∧ Rn S 198 14 [v0, v1, v2, v3] st (zr I q (upd (I q) a.toNatClampNeg b)) J Q) := rIas f198_13
theorem x198_14 : Rn S 198 14 [v0, v1, .int a, v3] st I J Q = Rn S 198 17 [v0, zkl v1, .int (a + 1), v3] st I J Q := rL f198_14 rfl rfl
theorem x198_17 : Rn S 198 17 [v0, v1, v2, v3] st I J Q = Rn S 198 5 [v0, v1, v2, v3] st I J Q := rB f198_17 rfl rfl rfl
theorem x198_20 : Rn S 198 20 [v0, v1, v2, v3] [] I J Q = Q none I J := rR f198_20 rfl rfl rfl rfl rfl
end

section
variable {xl : Nat} {I : zI} {J : zJ} {Q : zQ}
theorem t_harmNow_loop {n : Nat} (hn : I 65 7 = nI n) (h10 : n ≤ 10) (s : Int32) : Rn (zG xl) 150 4 [.ref 65, .int s, .int (nI 0)] [] I J Q = Q (some (.int (fo (fun k s => s + if I 84 k = -1 then I 72 (2 * k + 1) else 0) n 0 s))) I J := by
  refine fo_loop0 (R := fun k s => Rn (zG xl) 150 4 [.ref 65, .int s, .int (nI k)] [] I J Q) (E := fun s => Q (some (.int s)) I J) (fun k s hk => ?_) (fun s => ?_) s
  · rw [h150_4]
    simp (disch := omega) only [x150_0, x150_1, x150_2, x150_3, x150_5, x150_6_65, x150_9, x150_12, x150_13, x150_14_65, x150_17, x150_18, x150_19, x150_20, x150_23, x150_24_65, x150_27, x150_28, x150_29, x150_30, x150_31, x150_32, x150_33, x150_36, x150_37, x150_38, x150_39, x150_42, x150_45, x150_46, bi_84, bs_84, bi_72, bs_72, zkl_i, zkl_r, zkl_n, zkl_z, zkl_l, Option.toList_some, Option.toList_none, List.cons_append, List.nil_append, zcs_0, zcs_i, zcs_l, zcs_r, zle8, true_and, and_true, hn, nI_ltI, hk, if_true, nI_clamp, ixN_nI, nm_2, na_1]
    by_cases h : I 84 k = -1
    · simp only [h, if_true]
    · simp only [h, if_false]
  · rw [h150_4]
    simp (disch := omega) only [x150_0, x150_1, x150_2, x150_3, x150_5, x150_6_65, x150_9, x150_12, x150_13, x150_14_65, x150_17, x150_18, x150_19, x150_20, x150_23, x150_24_65, x150_27, x150_28, x150_29, x150_30, x150_31, x150_32, x150_33, x150_36, x150_37, x150_38, x150_39, x150_42, x150_45, x150_46, zkl_i, zkl_r, zkl_n, zkl_z, zkl_l, Option.toList_some, Option.toList_none, List.cons_append, List.nil_append, zcs_0, zcs_i, zcs_l, zcs_r, zle8, true_and, and_true, hn, nI_ltI, Nat.lt_irrefl, if_false]
end

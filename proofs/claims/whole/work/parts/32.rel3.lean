/-! ===== one shift of both ===== -/
theorem NR_skip {N P i : Nat} {A M M' : zI} (hi : i < 17) (hR : NR N P i A M) (h76 : M' 76 = upd (M 76) i (-1)) (h77 : M' 77 = upd (M 77) i 0) (hc : ∀ c, 77 < c → c ≤ 86 → c ≠ 83 → M' c = M c)
    (h83 : ∀ r, r < 6 → ¬ M' 83 r = 0 → ¬ M 83 r = 0 ∨ ∀ d, A (N + 4) r = nI d → ¬ nI d * sp_pc P A (nI r) + sp_pc P A (nI r) - 1 < A P 14) : NR N P (i + 1) A M' := by
  obtain ⟨h1, h2, h3, h4⟩ := hR
  refine ⟨fun r hr => ?_, fun k hk => ?_, fun j hj => ?_, fun j hj hj2 => h4 j (by omega) hj2⟩
  · obtain ⟨d, d0, d1, d2, d3, d4, d5, d6, d7, d8⟩ := h1 r hr
    refine ⟨d, by omega, d1, ?_, ?_, ?_, ?_, ?_, ?_, fun z => ?_⟩
    · rw [hc 80 (by omega) (by omega) (by omega)]; exact d2
    · rw [hc 79 (by omega) (by omega) (by omega)]; exact d3
    · rw [hc 81 (by omega) (by omega) (by omega)]; exact d4
    · rw [hc 78 (by omega) (by omega) (by omega)]; exact d5
    · rw [hc 78 (by omega) (by omega) (by omega)]; exact d6
    · rw [hc 82 (by omega) (by omega) (by omega)]; exact d7
    · rcases h83 r hr z with z1 | z1
      · exact d8 z1
      · exact z1 d d1
  · rw [hc 84 (by omega) (by omega) (by omega), hc 85 (by omega) (by omega) (by omega), hc 86 (by omega) (by omega) (by omega)]
    exact h2 k hk
  · rw [h76, h77]
    by_cases e : j = i
    · subst e
      rw [upd_s, upd_s, (h4 j (Nat.le_refl _) hi).1, (h4 j (Nat.le_refl _) hi).2]
      exact ⟨rfl, rfl⟩
    · rw [upd_n e, upd_n e]
      exact h3 j (by omega)

/-! isWell: small rows -/
theorem zx_2 {M : xm_T} {a : Nat} {f g : Nat → Int32} : xr_up (xr_up M a f) a g = xr_up M a g := by
  funext x
  by_cases q : x = a
  · subst q; rw [xr_s, xr_s]
  · rw [xr_n _ _ q, xr_n _ _ q, xr_n _ _ q]
theorem zco_5 {a k : Nat} {M : xm_T} (hk : k < 4) : zf_co a M (5 + k) = zc_pw a (nI k) M := by
  rcases (show k = 0 ∨ k = 1 ∨ k = 2 ∨ k = 3 by omega) with q | q | q | q <;> subst q <;> rfl
theorem zs_n2 {M : xm_T} {p : Nat} (h : M p 3 = nI 2 ∨ M p 3 = nI 3) : zs_at M p = -6 := by
  refine zs_no (fun z => ?_)
  rcases h with h | h <;> rcases z with z | z <;> exact absurd (h.symm.trans z) (by decide)
theorem zs_w1 {a n T G B k : Nat} {M : xm_T} (h : zi a M n T G B) (hk : k < n) (hq : M (a + 2 * k + 34) 3 = nI 0 ∨ M (a + 2 * k + 34) 3 = nI 1) : ∃ w, w < 6 ∧ zs_at M (a + 2 * k + 34) = nI w ∧ zm_wz M (a + 2 * k + 34) = w := by
  obtain ⟨t, m, w, hat⟩ := (h.2.2.2.1 k hk).at hq
  exact ⟨w, hat.2.2.2.2.2, zs_in hat hq, zk_wz hat⟩

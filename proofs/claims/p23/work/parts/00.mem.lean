abbrev xm_T : Type := Nat → Nat → Int32
def xr_up (M : xm_T) (a : Nat) (f : Nat → Int32) : xm_T := fun y => if y = a then f else M y
def xu_p (M : xm_T) (a k : Nat) (v : Int32) : xm_T := xr_up M a (upd (M a) k v)
theorem xr_s (M : xm_T) (a : Nat) (f : Nat → Int32) : xr_up M a f a = f := if_pos rfl
theorem xr_n (M : xm_T) {a y : Nat} (f : Nat → Int32) (h : y ≠ a) : xr_up M a f y = M y := if_neg h
theorem xu_s (M : xm_T) (a k : Nat) (v : Int32) : xu_p M a k v a k = v := by unfold xu_p; rw [xr_s]; exact if_pos rfl
theorem xu_n {M : xm_T} {a k x j : Nat} (v : Int32) (h : x ≠ a ∨ j ≠ k) : xu_p M a k v x j = M x j := by
  unfold xu_p
  by_cases hx : x = a
  · subst hx
    rw [xr_s]
    exact if_neg (by rcases h with h | h; exact absurd rfl h; exact h)
  · rw [xr_n _ _ hx]
def xf_sum (f : Nat → Int32) : Nat → Int32
  | 0 => nI 0
  | n + 1 => xf_sum f n + f n

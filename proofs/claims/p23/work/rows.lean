section
abbrev xm_T : Type := Nat → Nat → Int32
def xr_up (M : xm_T) (a : Nat) (f : Nat → Int32) : xm_T := fun y => if y = a then f else M y
def xu_p (M : xm_T) (a k : Nat) (v : Int32) : xm_T := xr_up M a (upd (M a) k v)
theorem xr_s (M : xm_T) (a : Nat) (f : Nat → Int32) : xr_up M a f a = f := if_pos rfl
theorem xr_n (M : xm_T) {a y : Nat} (f : Nat → Int32) (h : y ≠ a) : xr_up M a f y = M y := if_neg h
theorem xu_s (M : xm_T) (a k : Nat) (v : Int32) : xu_p M a k v a k = v := by unfold xu_p; rw [xr_s]; exact if_pos rfl
theorem xu_n {M : xm_T} {a k x j : Nat} (v : Int32) (h : x ≠ a ∨ j ≠ k) : xu_p M a k v x j = M x j := by
  unfold xu_p
  by_cases hx : x = a
  · subst hx
    rw [xr_s]
    exact if_neg (by rcases h with h | h; exact absurd rfl h; exact h)
  · rw [xr_n _ _ hx]
def xf_sum (f : Nat → Int32) : Nat → Int32
  | 0 => nI 0
  | n + 1 => xf_sum f n + f n
end
section
/-! THE CLASS AS FUNCTIONS OF THE MEMORY (a: a ministry's address) -/
def zl_pl (f : Nat → Int32) (n : Int32) : Nat → Nat
  | 0 => 0
  | L + 1 => if zl_pl f n L < L then zl_pl f n L else if f L = n then L else L + 1
/-- one taken out of the line at q, at its place j -/
def zl_rm (q j : Nat) (M : xm_T) : xm_T := xr_up (xu_p M q 1 (M q 1 - nI 1)) (q + 1) (fun i => if j ≤ i ∧ i + 1 < (M q 1).toNatClampNeg then M (q + 1) (i + 1) else M (q + 1) i)
def zl_rv (q : Nat) (n : Int32) (M : xm_T) : xm_T := if zl_pl (M (q + 1)) n (M q 1).toNatClampNeg < (M q 1).toNatClampNeg then zl_rm q (zl_pl (M (q + 1)) n (M q 1).toNatClampNeg) M else M
def zl_ap (q : Nat) (n : Int32) (M : xm_T) : xm_T := xu_p (xu_p M (q + 1) (M q 1).toNatClampNeg n) q 1 (M q 1 + nI 1)
/-- the window that the person at p needs -/
def zm_wz (M : xm_T) (p : Nat) : Nat := (M (p + 1) (M p 4).toNatClampNeg).toNatClampNeg
def zm_h (v : Int32) : Int32 := if v = 0 then nI 0 else nI 1
def zm_jn (a k : Nat) (M : xm_T) : xm_T := if zm_wz M (a + 2 * k + 34) < 6 then zl_ap (a + 5 * zm_wz M (a + 2 * k + 34) + 5) (M (a + 2 * k + 34) 0) (xu_p (xu_p M (a + 2 * k + 34) 3 (nI 0)) (a + 2 * k + 34) 8 (nI 0)) else M
def zm_go (p : Nat) (x y : Int32) (M : xm_T) : xm_T := xu_p (xu_p (xu_p M p 3 x) p 5 (nI 0)) p 10 y
def zm_sa (a k : Nat) (y : Int32) (M : xm_T) : xm_T := if zm_wz M (a + 2 * k + 34) < 6 then zm_go (a + 2 * k + 34) (nI 3) y (xu_p (zl_rv (a + 5 * zm_wz M (a + 2 * k + 34) + 5) (M (a + 2 * k + 34) 0) M) a 5 (M a 5 + zm_h (M (a + 2 * k + 34) 5))) else M
/-- done at the window w -/
def zm_f0 (a w k : Nat) (M : xm_T) : xm_T := zm_go (a + 2 * k + 34) (nI 2) (M a 4 + nI 1) (xu_p (xu_p (xu_p M (a + 5 * w + 4) 3 (M (a + 5 * w + 4) 3 + nI 1)) (a + 2 * k + 34) 4 (M (a + 2 * k + 34) 4 + nI 1)) (a + 5 * w + 4) 2 (M (a + 5 * w + 4) 2 + zm_h (M (a + 2 * k + 34) 5)))
/-- the window gives a half -/
def zm_f1 (a w k : Nat) (M : xm_T) : xm_T := zm_jn a k (xu_p (xu_p (xu_p (xu_p (xu_p M (a + 5 * w + 4) 3 (M (a + 5 * w + 4) 3 + nI 1)) (a + 5 * w + 4) 2 (M (a + 5 * w + 4) 2 + (if M (a + 2 * k + 34) 5 = 0 then (-1) else nI 0))) (a + 2 * k + 34) 5 (nI 1)) (a + 2 * k + 34) 4 (M (a + 2 * k + 34) 4 + nI 1)) (a + 2 * k + 34) 11 (nI 1))
/-- its own half is stamped -/
def zm_f2 (a w k : Nat) (M : xm_T) : xm_T := zm_jn a k (xu_p (xu_p (xu_p M (a + 5 * w + 4) 3 (M (a + 5 * w + 4) 3 + nI 1)) (a + 2 * k + 34) 4 (M (a + 2 * k + 34) 4 + nI 1)) (a + 2 * k + 34) 11 (nI 1))
/-- sent back -/
def zm_f3 (a w k : Nat) (M : xm_T) : xm_T := zm_jn a k (xu_p (xu_p (xu_p (xu_p M (a + 5 * w + 4) 3 (M (a + 5 * w + 4) 3 + nI 1)) (a + 2 * k + 34) 9 (M (a + 2 * k + 34) 9 + nI 1)) (a + 5 * w + 4) 4 (M (a + 5 * w + 4) 4 + nI 1)) (a + 2 * k + 34) 11 (nI 1))
def zm_fi (a w k : Nat) (M : xm_T) : xm_T := if M (a + 2 * k + 34) 4 + nI 1 < M (a + 2 * k + 34) 2 then (if M (a + 5 * w + 4) 2 ≤ 0 then (if M (a + 2 * k + 34) 5 = 0 then zm_f3 a w k M else zm_f2 a w k M) else zm_f1 a w k M) else zm_f0 a w k M
def zm_it {σ : Type} (f : σ → σ) : Nat → σ → σ
  | 0, z => z
  | n + 1, z => f (zm_it f n z)
def zm_fo (f : Nat → xm_T → xm_T) : Nat → xm_T → xm_T
  | 0, M => M
  | n + 1, M => f n (zm_fo f n M)
/-- one turn of serveAt: memory and place -/
def zm_s0 (a w k : Nat) (z : xm_T × Nat) : xm_T × Nat := if z.1 (a + 2 * k + 34) 6 + nI 1 < z.1 (a + 1) 0 then (xu_p z.1 (a + 2 * k + 34) 6 (z.1 (a + 2 * k + 34) 6 + nI 1), z.2 + 1) else (zm_fi a w k (zl_rv (a + 5 * w + 7) (z.1 (a + 2 * k + 34) 0) (xu_p z.1 (a + 2 * k + 34) 6 (z.1 (a + 2 * k + 34) 6 + nI 1))), z.2)
def zm_s1 (a w : Nat) (z : xm_T × Nat) : xm_T × Nat := if (z.1 (a + 5 * w + 8) z.2).toNatClampNeg < 24 then zm_s0 a w (z.1 (a + 5 * w + 8) z.2).toNatClampNeg z else z
def zm_sv (a w : Nat) (M : xm_T) : xm_T := (zm_it (zm_s1 a w) (M (a + 5 * w + 7) 1).toNatClampNeg (M, 0)).1
/-- one turn of callAt -/
def zm_cp (a w : Nat) (M : xm_T) : Nat := (M (a + 5 * w + 6) 0).toNatClampNeg
abbrev zm_c0 (a w : Nat) (M : xm_T) : Prop := M (a + 5 * w + 5) 1 = nI 0 ∨ ¬ zm_cp a w M < 24 ∨ ¬ M (a + 2 * zm_cp a w M + 34) 11 = 0
def zm_c2 (a w k : Nat) (M : xm_T) : xm_T := xu_p (xu_p (zl_ap (a + 5 * w + 7) (M (a + 2 * k + 34) 0) (zl_rv (a + 5 * w + 5) (M (a + 2 * k + 34) 0) M)) (a + 2 * k + 34) 3 (nI 1)) (a + 2 * k + 34) 6 (nI 0)
def zm_cl (a w : Nat) : Nat → xm_T → xm_T
  | 0, M => M
  | n + 1, M => if zm_c0 a w M then M else zm_cl a w n (zm_c2 a w (zm_cp a w M) M)
def zm_ca (a w : Nat) (M : xm_T) : xm_T := zm_cl a w (M (a + 5 * w + 4) 1 - M (a + 5 * w + 7) 1).toNatClampNeg M
/-- one person waits -/
def zm_w0 (a k : Nat) (M : xm_T) : xm_T := xu_p (xu_p M (a + 2 * k + 34) 7 (M (a + 2 * k + 34) 7 + nI 1)) (a + 2 * k + 34) 8 (M (a + 2 * k + 34) 8 + nI 1)
def zm_w1 (a k : Nat) (M : xm_T) : xm_T := if M (a + 2 * k + 34) 3 = 0 then (if ¬ M (a + 1) 2 = 0 ∧ ¬ M (a + 2 * k + 34) 8 + nI 1 < M (a + 1) 2 then zm_sa a k (M a 4 + nI 1) (zm_w0 a k M) else zm_w0 a k M) else M
def zm_wa (a : Nat) (M : xm_T) : xm_T := zm_fo (zm_w1 a) 24 M
def zm_cf (a k : Nat) (M : xm_T) : xm_T := xu_p M (a + 2 * k + 34) 11 (nI 0)
def zm_v1 (a w : Nat) (M : xm_T) : xm_T := if M (a + 5 * w + 4) 0 = 0 then M else zm_ca a w (zm_sv a w M)
def zm_t0 (a : Nat) (M : xm_T) : xm_T := zm_wa a (zm_fo (zm_v1 a) 6 (zm_fo (zm_cf a) 24 M))
def zm_ti (a : Nat) (M : xm_T) : xm_T := xu_p (zm_t0 a M) a 4 (zm_t0 a M a 4 + nI 1)
/-- one person comes, with an errand of m windows -/
def zm_a0 (a k m : Nat) (e : Nat → Int32) (M : xm_T) : xm_T := xu_p (xr_up (xu_p M a 3 (M a 3 + nI 1)) (a + 2 * k + 35) (fun j => if j < m then e j else M (a + 2 * k + 35) j)) (a + 2 * k + 34) 2 (nI m)
def zm_ad (a m : Nat) (e : Nat → Int32) (M : xm_T) : xm_T := if (M a 3).toNatClampNeg < 24 then zm_jn a (M a 3).toNatClampNeg (zm_a0 a (M a 3).toNatClampNeg m e M) else M

/-! SAME BLOCK, SAME OUTCOME -/
def zz_g (a b : Nat) (M N : xm_T) : Prop := ∀ c, c < 82 → M (a + c) = N (b + c)
def zz_o (a : Nat) (M M' : xm_T) : Prop := ∀ x, x < a ∨ a + 82 ≤ x → M' x = M x
def zz_Z (a b : Nat) (M N M' N' : xm_T) : Prop := zz_g a b M' N' ∧ zz_o a M M' ∧ zz_o b N N'
theorem zZ_rf {a b : Nat} {M N : xm_T} (h : zz_g a b M N) : zz_Z a b M N M N := ⟨h, fun _ _ => rfl, fun _ _ => rfl⟩
theorem zz_Z.tr {a b : Nat} {M N M1 N1 M2 N2 : xm_T} (h : zz_Z a b M N M1 N1) (h2 : zz_Z a b M1 N1 M2 N2) : zz_Z a b M N M2 N2 := ⟨h2.1, fun x hx => (h2.2.1 x hx).trans (h.2.1 x hx), fun x hx => (h2.2.2 x hx).trans (h.2.2 x hx)⟩
theorem zz_Z.rd {a b : Nat} {M N M1 N1 : xm_T} (h : zz_Z a b M N M1 N1) (c : Nat) (hc : c < 82) {x y : Nat} (hx : x = a + c) (hy : y = b + c) : M1 x = N1 y := by subst hx; subst hy; exact h.1 c hc
theorem zz_Z.row {a b : Nat} {M N M1 N1 : xm_T} (h : zz_Z a b M N M1 N1) (c : Nat) (hc : c < 82) {x y : Nat} (hx : x = a + c) (hy : y = b + c) {f f' : Nat → Int32} (hf : f = f') : zz_Z a b M N (xr_up M1 x f) (xr_up N1 y f') := by
  subst hx; subst hy; subst hf
  refine ⟨fun d hd => ?_, fun z hz => ?_, fun z hz => ?_⟩
  · by_cases hdc : d = c
    · subst hdc; rw [xr_s, xr_s]
    · rw [xr_n _ _ (by omega), xr_n _ _ (by omega)]; exact h.1 d hd
  · rw [xr_n _ _ (by omega)]; exact h.2.1 z hz
  · rw [xr_n _ _ (by omega)]; exact h.2.2 z hz
theorem zz_Z.up {a b : Nat} {M N M1 N1 : xm_T} (h : zz_Z a b M N M1 N1) (c : Nat) (hc : c < 82) {x y : Nat} (hx : x = a + c) (hy : y = b + c) (i : Nat) {u v : Int32} (hu : u = v) : zz_Z a b M N (xu_p M1 x i u) (xu_p N1 y i v) := by
  unfold xu_p
  exact h.row c hc hx hy (by rw [h.rd c hc hx hy, hu])
theorem zZ_rv {a b : Nat} {M N M1 N1 : xm_T} (h : zz_Z a b M N M1 N1) (c : Nat) (hc : c + 1 < 82) {x y : Nat} (hx : x = a + c) (hy : y = b + c) {n n' : Int32} (hn : n = n') : zz_Z a b M N (zl_rv x n M1) (zl_rv y n' N1) := by
  have e1 := h.rd c (by omega) hx hy
  have e2 := h.rd (c + 1) hc (x := x + 1) (y := y + 1) (by omega) (by omega)
  subst hn
  unfold zl_rv
  rw [e1, e2]
  by_cases q : zl_pl (N1 (y + 1)) n (N1 y 1).toNatClampNeg < (N1 y 1).toNatClampNeg
  · rw [if_pos q, if_pos q]
    unfold zl_rm
    rw [e1, e2]
    exact (h.up c (by omega) hx hy 1 rfl).row (c + 1) hc (by omega) (by omega) rfl
  · rw [if_neg q, if_neg q]
    exact h
theorem zZ_ap {a b : Nat} {M N M1 N1 : xm_T} (h : zz_Z a b M N M1 N1) (c : Nat) (hc : c + 1 < 82) {x y : Nat} (hx : x = a + c) (hy : y = b + c) {n n' : Int32} (hn : n = n') : zz_Z a b M N (zl_ap x n M1) (zl_ap y n' N1) := by
  have e1 := h.rd c (by omega) hx hy
  subst hn
  unfold zl_ap
  rw [e1]
  exact (h.up (c + 1) hc (by omega) (by omega) _ rfl).up c (by omega) hx hy 1 rfl
theorem zZ_go {a b : Nat} {M N M1 N1 : xm_T} (h : zz_Z a b M N M1 N1) (c : Nat) (hc : c < 82) {x y : Nat} (hx : x = a + c) (hy : y = b + c) {u u' v v' : Int32} (hu : u = u') (hv : v = v') : zz_Z a b M N (zm_go x u v M1) (zm_go y u' v' N1) := by
  subst hu; subst hv
  exact ((h.up c hc hx hy 3 rfl).up c hc hx hy 5 rfl).up c hc hx hy 10 rfl
theorem zZ_wz {a b : Nat} {M N M1 N1 : xm_T} (h : zz_Z a b M N M1 N1) {k : Nat} (hk : k < 24) : zm_wz M1 (a + 2 * k + 34) = zm_wz N1 (b + 2 * k + 34) := by
  have e1 := h.rd (2 * k + 34) (by omega) (x := a + 2 * k + 34) (y := b + 2 * k + 34) (by omega) (by omega)
  have e2 := h.rd (2 * k + 35) (by omega) (x := a + 2 * k + 34 + 1) (y := b + 2 * k + 34 + 1) (by omega) (by omega)
  unfold zm_wz
  rw [e1, e2]
theorem zZ_jn {a b : Nat} {M N M1 N1 : xm_T} (h : zz_Z a b M N M1 N1) {k : Nat} (hk : k < 24) : zz_Z a b M N (zm_jn a k M1) (zm_jn b k N1) := by
  have e1 := h.rd (2 * k + 34) (by omega) (x := a + 2 * k + 34) (y := b + 2 * k + 34) (by omega) (by omega)
  unfold zm_jn
  rw [zZ_wz h hk, e1]
  by_cases q : zm_wz N1 (b + 2 * k + 34) < 6
  · rw [if_pos q, if_pos q]
    exact zZ_ap ((h.up (2 * k + 34) (by omega) (by omega) (by omega) 3 rfl).up (2 * k + 34) (by omega) (by omega) (by omega) 8 rfl) (5 * zm_wz N1 (b + 2 * k + 34) + 5) (by omega) (by omega) (by omega) rfl
  · rw [if_neg q, if_neg q]
    exact h
theorem zZ_sa {a b : Nat} {M N M1 N1 : xm_T} (h : zz_Z a b M N M1 N1) {k : Nat} (hk : k < 24) {y y' : Int32} (hy : y = y') : zz_Z a b M N (zm_sa a k y M1) (zm_sa b k y' N1) := by
  have e1 := h.rd (2 * k + 34) (by omega) (x := a + 2 * k + 34) (y := b + 2 * k + 34) (by omega) (by omega)
  have e0 := h.rd 0 (by omega) (x := a) (y := b) (by omega) (by omega)
  unfold zm_sa
  rw [zZ_wz h hk, e1, e0]
  by_cases q : zm_wz N1 (b + 2 * k + 34) < 6
  · rw [if_pos q, if_pos q]
    exact zZ_go ((zZ_rv h (5 * zm_wz N1 (b + 2 * k + 34) + 5) (by omega) (by omega) (by omega) rfl).up 0 (by omega) (by omega) (by omega) 5 rfl) (2 * k + 34) (by omega) (by omega) (by omega) rfl hy
  · rw [if_neg q, if_neg q]
    exact h
theorem zZ_fi {a b : Nat} {M N M1 N1 : xm_T} (h : zz_Z a b M N M1 N1) {w k : Nat} (hw : w < 6) (hk : k < 24) : zz_Z a b M N (zm_fi a w k M1) (zm_fi b w k N1) := by
  have e1 := h.rd (2 * k + 34) (by omega) (x := a + 2 * k + 34) (y := b + 2 * k + 34) (by omega) (by omega)
  have e0 := h.rd 0 (by omega) (x := a) (y := b) (by omega) (by omega)
  have e2 := h.rd (5 * w + 4) (by omega) (x := a + 5 * w + 4) (y := b + 5 * w + 4) (by omega) (by omega)
  have hV : ∀ {P Q : xm_T} (i : Nat) {u v : Int32}, zz_Z a b M N P Q → u = v → zz_Z a b M N (xu_p P (a + 5 * w + 4) i u) (xu_p Q (b + 5 * w + 4) i v) := fun i _ _ g q => g.up (5 * w + 4) (by omega) (by omega) (by omega) i q
  have hP : ∀ {P Q : xm_T} (i : Nat) {u v : Int32}, zz_Z a b M N P Q → u = v → zz_Z a b M N (xu_p P (a + 2 * k + 34) i u) (xu_p Q (b + 2 * k + 34) i v) := fun i _ _ g q => g.up (2 * k + 34) (by omega) (by omega) (by omega) i q
  unfold zm_fi zm_f0 zm_f1 zm_f2 zm_f3
  rw [e1, e0, e2]
  by_cases q : N1 (b + 2 * k + 34) 4 + nI 1 < N1 (b + 2 * k + 34) 2
  · rw [if_pos q, if_pos q]
    by_cases q2 : N1 (b + 5 * w + 4) 2 ≤ 0
    · rw [if_pos q2, if_pos q2]
      by_cases q3 : N1 (b + 2 * k + 34) 5 = 0
      · rw [if_pos q3, if_pos q3]
        exact zZ_jn (hP 11 (hV 4 (hP 9 (hV 3 h rfl) rfl) rfl) rfl) hk
      · rw [if_neg q3, if_neg q3]
        exact zZ_jn (hP 11 (hP 4 (hV 3 h rfl) rfl) rfl) hk
    · rw [if_neg q2, if_neg q2]
      exact zZ_jn (hP 11 (hP 4 (hP 5 (hV 2 (hV 3 h rfl) rfl) rfl) rfl) rfl) hk
  · rw [if_neg q, if_neg q]
    exact zZ_go (hV 2 (hP 4 (hV 3 h rfl) rfl) rfl) (2 * k + 34) (by omega) (by omega) (by omega) rfl rfl
theorem zZ_s1 {a b : Nat} {M N : xm_T} {z y : xm_T × Nat} (h : zz_Z a b M N z.1 y.1) (hzy : z.2 = y.2) {w : Nat} (hw : w < 6) : zz_Z a b M N (zm_s1 a w z).1 (zm_s1 b w y).1 ∧ (zm_s1 a w z).2 = (zm_s1 b w y).2 := by
  have e8 := h.rd (5 * w + 8) (by omega) (x := a + 5 * w + 8) (y := b + 5 * w + 8) (by omega) (by omega)
  unfold zm_s1
  rw [e8, hzy]
  generalize (y.1 (b + 5 * w + 8) y.2).toNatClampNeg = k
  by_cases hk : k < 24
  · rw [if_pos hk, if_pos hk]
    have e1 := h.rd (2 * k + 34) (by omega) (x := a + 2 * k + 34) (y := b + 2 * k + 34) (by omega) (by omega)
    have e2 := h.rd 1 (by omega) (x := a + 1) (y := b + 1) (by omega) (by omega)
    unfold zm_s0
    rw [e1, e2]
    have g := h.up (2 * k + 34) (by omega) (x := a + 2 * k + 34) (y := b + 2 * k + 34) (by omega) (by omega) 6 (u := y.1 (b + 2 * k + 34) 6 + nI 1) rfl
    by_cases q : y.1 (b + 2 * k + 34) 6 + nI 1 < y.1 (b + 1) 0
    · rw [if_pos q, if_pos q]
      exact ⟨g, congrArg (· + 1) hzy⟩
    · rw [if_neg q, if_neg q]
      exact ⟨zZ_fi (zZ_rv g (5 * w + 7) (by omega) (by omega) (by omega) rfl) hw hk, hzy⟩
  · rw [if_neg hk, if_neg hk]
    exact ⟨h, hzy⟩
theorem zZ_sv {a b : Nat} {M N M1 N1 : xm_T} (h : zz_Z a b M N M1 N1) {w : Nat} (hw : w < 6) : zz_Z a b M N (zm_sv a w M1) (zm_sv b w N1) := by
  have e7 := h.rd (5 * w + 7) (by omega) (x := a + 5 * w + 7) (y := b + 5 * w + 7) (by omega) (by omega)
  unfold zm_sv
  rw [e7]
  generalize (N1 (b + 5 * w + 7) 1).toNatClampNeg = n
  have key : ∀ n, zz_Z a b M N (zm_it (zm_s1 a w) n (M1, 0)).1 (zm_it (zm_s1 b w) n (N1, 0)).1 ∧ (zm_it (zm_s1 a w) n (M1, 0)).2 = (zm_it (zm_s1 b w) n (N1, 0)).2 := by
    intro n
    induction n with
    | zero => exact ⟨h, rfl⟩
    | succ n ih => exact zZ_s1 ih.1 ih.2 hw
  exact (key n).1
theorem zZ_cl {a b : Nat} {M N : xm_T} {w : Nat} (hw : w < 6) : ∀ (n : Nat) {M1 N1 : xm_T}, zz_Z a b M N M1 N1 → zz_Z a b M N (zm_cl a w n M1) (zm_cl b w n N1) := by
  intro n
  induction n with
  | zero => intro M1 N1 h; exact h
  | succ n ih =>
    intro M1 N1 h
    have e5 := h.rd (5 * w + 5) (by omega) (x := a + 5 * w + 5) (y := b + 5 * w + 5) (by omega) (by omega)
    have e6 := h.rd (5 * w + 6) (by omega) (x := a + 5 * w + 6) (y := b + 5 * w + 6) (by omega) (by omega)
    have ec : zm_cp a w M1 = zm_cp b w N1 := by unfold zm_cp; rw [e6]
    show zz_Z a b M N (if zm_c0 a w M1 then M1 else zm_cl a w n (zm_c2 a w (zm_cp a w M1) M1)) (if zm_c0 b w N1 then N1 else zm_cl b w n (zm_c2 b w (zm_cp b w N1) N1))
    by_cases hk : zm_cp b w N1 < 24
    · have e1 := h.rd (2 * zm_cp b w N1 + 34) (by omega) (x := a + 2 * zm_cp b w N1 + 34) (y := b + 2 * zm_cp b w N1 + 34) (by omega) (by omega)
      have hc : zm_c0 a w M1 ↔ zm_c0 b w N1 := by unfold zm_c0; rw [e5, ec, e1]
      by_cases q : zm_c0 b w N1
      · rw [if_pos q, if_pos (hc.mpr q)]
        exact h
      · rw [if_neg q, if_neg (fun z => q (hc.mp z)), ec]
        refine ih ?_
        unfold zm_c2
        rw [e1]
        exact ((zZ_ap (zZ_rv h (5 * w + 5) (by omega) (by omega) (by omega) rfl) (5 * w + 7) (by omega) (by omega) (by omega) rfl).up (2 * zm_cp b w N1 + 34) (by omega) (by omega) (by omega) 3 rfl).up (2 * zm_cp b w N1 + 34) (by omega) (by omega) (by omega) 6 rfl
    · rw [if_pos (Or.inr (Or.inl hk)), if_pos (Or.inr (Or.inl (by rw [ec]; exact hk)))]
      exact h
theorem zZ_ca {a b : Nat} {M N M1 N1 : xm_T} (h : zz_Z a b M N M1 N1) {w : Nat} (hw : w < 6) : zz_Z a b M N (zm_ca a w M1) (zm_ca b w N1) := by
  unfold zm_ca
  rw [h.rd (5 * w + 7) (by omega) (x := a + 5 * w + 7) (y := b + 5 * w + 7) (by omega) (by omega), h.rd (5 * w + 4) (by omega) (x := a + 5 * w + 4) (y := b + 5 * w + 4) (by omega) (by omega)]
  exact zZ_cl hw _ h
theorem zZ_fo {a b : Nat} {M N : xm_T} {f g : Nat → xm_T → xm_T} {L : Nat} (hf : ∀ (k : Nat) {M1 N1 : xm_T}, k < L → zz_Z a b M N M1 N1 → zz_Z a b M N (f k M1) (g k N1)) : ∀ (n : Nat) {M1 N1 : xm_T}, n ≤ L → zz_Z a b M N M1 N1 → zz_Z a b M N (zm_fo f n M1) (zm_fo g n N1) := by
  intro n
  induction n with
  | zero => intro M1 N1 _ h; exact h
  | succ n ih => intro M1 N1 hn h; exact hf n (by omega) (ih (by omega) h)
theorem zZ_w1 {a b : Nat} {M N M1 N1 : xm_T} (h : zz_Z a b M N M1 N1) {k : Nat} (hk : k < 24) : zz_Z a b M N (zm_w1 a k M1) (zm_w1 b k N1) := by
  have e1 := h.rd (2 * k + 34) (by omega) (x := a + 2 * k + 34) (y := b + 2 * k + 34) (by omega) (by omega)
  have e0 := h.rd 0 (by omega) (x := a) (y := b) (by omega) (by omega)
  have e2 := h.rd 1 (by omega) (x := a + 1) (y := b + 1) (by omega) (by omega)
  have g : zz_Z a b M N (zm_w0 a k M1) (zm_w0 b k N1) := by
    unfold zm_w0
    rw [e1]
    exact (h.up (2 * k + 34) (by omega) (by omega) (by omega) 7 rfl).up (2 * k + 34) (by omega) (by omega) (by omega) 8 rfl
  unfold zm_w1
  rw [e1, e0, e2]
  by_cases q : N1 (b + 2 * k + 34) 3 = 0
  · rw [if_pos q, if_pos q]
    by_cases q2 : ¬ N1 (b + 1) 2 = 0 ∧ ¬ N1 (b + 2 * k + 34) 8 + nI 1 < N1 (b + 1) 2
    · rw [if_pos q2, if_pos q2]
      exact zZ_sa g hk rfl
    · rw [if_neg q2, if_neg q2]
      exact g
  · rw [if_neg q, if_neg q]
    exact h
theorem zZ_v1 {a b : Nat} {M N M1 N1 : xm_T} (h : zz_Z a b M N M1 N1) {w : Nat} (hw : w < 6) : zz_Z a b M N (zm_v1 a w M1) (zm_v1 b w N1) := by
  have e2 := h.rd (5 * w + 4) (by omega) (x := a + 5 * w + 4) (y := b + 5 * w + 4) (by omega) (by omega)
  unfold zm_v1
  rw [e2]
  by_cases q : N1 (b + 5 * w + 4) 0 = 0
  · rw [if_pos q, if_pos q]; exact h
  · rw [if_neg q, if_neg q]; exact zZ_ca (zZ_sv h hw) hw
theorem zZ_ti {a b : Nat} {M N M1 N1 : xm_T} (h : zz_Z a b M N M1 N1) : zz_Z a b M N (zm_ti a M1) (zm_ti b N1) := by
  have g1 : zz_Z a b M N (zm_fo (zm_cf a) 24 M1) (zm_fo (zm_cf b) 24 N1) := zZ_fo (L := 24) (f := zm_cf a) (g := zm_cf b) (fun k P Q hk g => by unfold zm_cf; exact g.up (2 * k + 34) (by omega) (by omega) (by omega) 11 rfl) 24 (Nat.le_refl _) h
  have g2 : zz_Z a b M N (zm_fo (zm_v1 a) 6 (zm_fo (zm_cf a) 24 M1)) (zm_fo (zm_v1 b) 6 (zm_fo (zm_cf b) 24 N1)) := zZ_fo (L := 6) (f := zm_v1 a) (g := zm_v1 b) (fun k P Q hk g => zZ_v1 g hk) 6 (Nat.le_refl _) g1
  have g : zz_Z a b M N (zm_t0 a M1) (zm_t0 b N1) := by
    unfold zm_t0 zm_wa
    exact zZ_fo (L := 24) (f := zm_w1 a) (g := zm_w1 b) (fun k P Q hk g => zZ_w1 g hk) 24 (Nat.le_refl _) g2
  unfold zm_ti
  rw [g.rd 0 (by omega) (x := a) (y := b) (by omega) (by omega)]
  exact g.up 0 (by omega) (by omega) (by omega) 4 rfl
theorem zZ_tn {a b : Nat} {M N M1 N1 : xm_T} (h : zz_Z a b M N M1 N1) : ∀ n : Nat, zz_Z a b M N (zm_it (zm_ti a) n M1) (zm_it (zm_ti b) n N1) := by
  intro n
  induction n with
  | zero => exact h
  | succ n ih => exact zZ_ti ih
theorem zZ_ad {a b : Nat} {M N M1 N1 : xm_T} (h : zz_Z a b M N M1 N1) {m m' : Nat} {e e' : Nat → Int32} (hm : m = m') (he : ∀ j, j < m → e j = e' j) : zz_Z a b M N (zm_ad a m e M1) (zm_ad b m' e' N1) := by
  subst hm
  have e0 := h.rd 0 (by omega) (x := a) (y := b) (by omega) (by omega)
  unfold zm_ad
  rw [e0]
  generalize (N1 b 3).toNatClampNeg = k
  by_cases hk : k < 24
  · rw [if_pos hk, if_pos hk]
    have e1 := h.rd (2 * k + 35) (by omega) (x := a + 2 * k + 35) (y := b + 2 * k + 35) (by omega) (by omega)
    refine zZ_jn ?_ hk
    unfold zm_a0
    rw [e0]
    refine ((h.up 0 (by omega) (by omega) (by omega) 3 rfl).row (2 * k + 35) (by omega) (by omega) (by omega) ?_).up (2 * k + 34) (by omega) (by omega) (by omega) 2 rfl
    funext j
    by_cases hj : j < m
    · rw [if_pos hj, if_pos hj, he j hj]
    · rw [if_neg hj, if_neg hj, e1]
  · rw [if_neg hk, if_neg hk]
    exact h
end
section
/-! LINES AS LISTS; SUMS -/
def zl_L (M : xm_T) (q : Nat) (w : List Nat) : Prop := w.length ≤ 24 ∧ M q 1 = nI w.length ∧ ∀ j k, w[j]? = some k → M (q + 1) j = nI k
theorem zI_inj {a b : Nat} (ha : a < 2 ^ 31) (hb : b < 2 ^ 31) (h : nI a = nI b) : a = b := by
  have h2 := congrArg Int32.toNatClampNeg h
  rwa [nI_clamp ha, nI_clamp hb] at h2
theorem zl_nd {w : List Nat} (hN : w.Nodup) {i j k : Nat} (hi : w[i]? = some k) (hj : w[j]? = some k) : i = j := by
  obtain ⟨g1, e1⟩ := List.getElem?_eq_some_iff.mp hi
  obtain ⟨g2, e2⟩ := List.getElem?_eq_some_iff.mp hj
  have hpw := List.pairwise_iff_getElem.mp hN
  rcases Nat.lt_trichotomy i j with q1 | q1 | q1
  · exact absurd (e1.trans e2.symm) (hpw i j g1 g2 q1)
  · exact q1
  · exact absurd (e2.trans e1.symm) (hpw j i g2 g1 q1)
theorem zl_le : ∀ {l l' : List Nat}, l.Nodup → (∀ x, x ∈ l → x ∈ l') → l.length ≤ l'.length
  | [], _, _, _ => Nat.zero_le _
  | x :: l, l', hN, hs => by
    have hx : x ∈ l' := hs x (List.mem_cons.mpr (Or.inl rfl))
    have hN2 := List.nodup_cons.mp hN
    have h1 : l.length ≤ (l'.erase x).length := zl_le hN2.2 (fun y hy => (List.mem_erase_of_ne (show y ≠ x from fun z => hN2.1 (by rw [← z]; exact hy))).mpr (hs y (List.mem_cons.mpr (Or.inr hy))))
    have h2 := List.length_erase_of_mem hx
    have h3 : 0 < l'.length := List.length_pos_of_mem hx
    rw [List.length_cons]
    omega
theorem zl_le24 {w : List Nat} {n : Nat} (hN : w.Nodup) (h : ∀ k, k ∈ w → k < n) : w.length ≤ n := by
  have h1 := zl_le hN (l' := List.range n) (fun x hx => List.mem_range.mpr (h x hx))
  rwa [List.length_range] at h1
theorem zl_L.eq {M M' : xm_T} {q q' : Nat} {w : List Nat} (h : zl_L M q w) (h1 : M' q' 1 = M q 1) (h2 : M' (q' + 1) = M (q + 1)) : zl_L M' q' w := ⟨h.1, h1.trans h.2.1, fun j k hj => by rw [h2]; exact h.2.2 j k hj⟩
theorem zl_L.ap {M : xm_T} {q : Nat} {w : List Nat} (h : zl_L M q w) (hlt : w.length < 24) (n : Nat) : zl_L (zl_ap q (nI n) M) q (w ++ [n]) := by
  refine ⟨by rw [List.length_append]; exact hlt, ?_, fun j k hj => ?_⟩
  · unfold zl_ap
    rw [xu_s, h.2.1, List.length_append]
    exact nI_add _ _
  · unfold zl_ap
    rw [xu_n _ (Or.inl (by omega)), h.2.1, nI_clamp (by omega)]
    by_cases hjw : j = w.length
    · subst hjw
      rw [xu_s]
      rw [List.getElem?_append_right (Nat.le_refl _), Nat.sub_self] at hj
      exact congrArg nI (Option.some.inj hj)
    · rw [xu_n _ (Or.inr hjw)]
      have hl := (List.getElem?_eq_some_iff.mp hj).1
      rw [List.length_append] at hl
      have hl2 : j < w.length := by
        have : ([n] : List Nat).length = 1 := rfl
        omega
      rw [List.getElem?_append_left hl2] at hj
      exact h.2.2 j k hj
theorem zl_ap_o {M : xm_T} {q x : Nat} {n : Int32} (h1 : x ≠ q) (h2 : x ≠ q + 1) : zl_ap q n M x = M x := by
  unfold zl_ap xu_p
  rw [xr_n _ _ h1, xr_n _ _ h2]
theorem zl_pl_none {f : Nat → Int32} {n : Int32} : ∀ {L : Nat}, (∀ i, i < L → f i ≠ n) → zl_pl f n L = L
  | 0, _ => rfl
  | L + 1, h => by
    show (if zl_pl f n L < L then zl_pl f n L else if f L = n then L else L + 1) = L + 1
    rw [zl_pl_none (fun i hi => h i (by omega)), if_neg (Nat.lt_irrefl L), if_neg (h L (by omega))]
theorem zl_pl_some {f : Nat → Int32} {n : Int32} : ∀ {L j : Nat}, j < L → f j = n → (∀ i, i < j → f i ≠ n) → zl_pl f n L = j
  | 0, _, h, _, _ => absurd h (Nat.not_lt_zero _)
  | L + 1, j, h, hj, hi => by
    show (if zl_pl f n L < L then zl_pl f n L else if f L = n then L else L + 1) = j
    by_cases hjL : j < L
    · rw [zl_pl_some hjL hj hi, if_pos hjL]
    · have e : j = L := by omega
      subst e
      rw [zl_pl_none hi, if_neg (Nat.lt_irrefl j), if_pos hj]
/-- the place of one who stands there -/
theorem zl_L.pl {M : xm_T} {q : Nat} {w : List Nat} (h : zl_L M q w) (hN : w.Nodup) (hb : ∀ x, x ∈ w → x < 24) {j k : Nat} (hj : w[j]? = some k) : zl_pl (M (q + 1)) (nI k) w.length = j := by
  refine zl_pl_some (List.getElem?_eq_some_iff.mp hj).1 (h.2.2 j k hj) (fun i hi z => ?_)
  have hil : i < w.length := by have := (List.getElem?_eq_some_iff.mp hj).1; omega
  have e := List.getElem?_eq_getElem hil
  have m1 := hb _ (List.mem_of_getElem? e)
  have m2 := hb _ (List.mem_of_getElem? hj)
  have e2 := zI_inj (by omega) (by omega) ((h.2.2 i _ e).symm.trans z)
  rw [e2] at e
  have := zl_nd hN e hj
  omega
theorem zl_L.pl0 {M : xm_T} {q : Nat} {w : List Nat} (h : zl_L M q w) (hb : ∀ x, x ∈ w → x < 24) {k : Nat} (hk : k < 24) (hn : k ∉ w) : zl_pl (M (q + 1)) (nI k) w.length = w.length := by
  refine zl_pl_none (fun i hi z => hn ?_)
  have e := List.getElem?_eq_getElem hi
  have m1 := hb _ (List.mem_of_getElem? e)
  have e2 := zI_inj (by omega) (by omega) ((h.2.2 i _ e).symm.trans z)
  rw [← e2]
  exact List.mem_of_getElem? e
theorem zl_L.rv {M : xm_T} {q : Nat} {w : List Nat} (h : zl_L M q w) (hN : w.Nodup) (hb : ∀ x, x ∈ w → x < 24) {j k : Nat} (hj : w[j]? = some k) : zl_L (zl_rv q (nI k) M) q (w.eraseIdx j) := by
  have hjl := (List.getElem?_eq_some_iff.mp hj).1
  have hl : (M q 1).toNatClampNeg = w.length := by rw [h.2.1, nI_clamp (by have := h.1; omega)]
  have hle : (w.eraseIdx j).length = w.length - 1 := List.length_eraseIdx_of_lt hjl
  unfold zl_rv
  rw [hl, h.pl hN hb hj, if_pos hjl]
  unfold zl_rm
  refine ⟨by have := h.1; omega, ?_, fun i k' hi => ?_⟩
  · rw [xr_n _ _ (by omega), xu_s, h.2.1, hle]
    have e : w.length = (w.length - 1) + 1 := by omega
    rw [e]
    exact nI_pred _
  · rw [xr_s, hl]
    have hil := (List.getElem?_eq_some_iff.mp hi).1
    rw [List.getElem?_eraseIdx] at hi
    by_cases hij : i < j
    · rw [if_pos hij] at hi
      rw [if_neg (by omega)]
      exact h.2.2 i k' hi
    · rw [if_neg hij] at hi
      rw [if_pos (by omega)]
      exact h.2.2 (i + 1) k' hi
theorem zl_rv_o {M : xm_T} {q x : Nat} {n : Int32} (h1 : x ≠ q) (h2 : x ≠ q + 1) : zl_rv q n M x = M x := by
  unfold zl_rv
  by_cases h : zl_pl (M (q + 1)) n (M q 1).toNatClampNeg < (M q 1).toNatClampNeg
  · rw [if_pos h]
    unfold zl_rm xu_p
    rw [xr_n _ _ h2, xr_n _ _ h1]
  · rw [if_neg h]
theorem zl_er {w : List Nat} (hN : w.Nodup) {j k : Nat} (hj : w[j]? = some k) (x : Nat) : x ∈ w.eraseIdx j ↔ x ∈ w ∧ x ≠ k := by
  rw [List.mem_eraseIdx_iff_getElem?]
  constructor
  · rintro ⟨i, hi, e⟩
    refine ⟨List.mem_of_getElem? e, fun z => hi ?_⟩
    rw [z] at e
    exact zl_nd hN e hj
  · rintro ⟨h1, h2⟩
    obtain ⟨i, e⟩ := List.getElem?_of_mem h1
    refine ⟨i, fun z => h2 ?_, e⟩
    rw [z, hj] at e
    exact (Option.some.inj e).symm
theorem zl_erN {w : List Nat} (hN : w.Nodup) (j : Nat) : (w.eraseIdx j).Nodup := List.Pairwise.eraseIdx j hN
theorem zl_apN {w : List Nat} (hN : w.Nodup) {k : Nat} (h : k ∉ w) : (w ++ [k]).Nodup := by
  rw [List.nodup_append]
  refine ⟨hN, List.nodup_cons.mpr ⟨List.not_mem_nil, List.nodup_nil⟩, fun x hx y hy e => h ?_⟩
  rw [List.mem_singleton] at hy
  rw [← hy, ← e]
  exact hx
theorem zs_c {f g : Nat → Int32} : ∀ {n : Nat}, (∀ k, k < n → g k = f k) → xf_sum g n = xf_sum f n
  | 0, _ => rfl
  | n + 1, h => by
    show xf_sum g n + g n = xf_sum f n + f n
    rw [zs_c (fun k hk => h k (by omega)), h n (by omega)]
theorem zs_up {f g : Nat → Int32} {k : Nat} : ∀ {n : Nat}, k < n → (∀ j, j < n → j ≠ k → g j = f j) → xf_sum g n = xf_sum f n + (g k - f k)
  | 0, h, _ => absurd h (Nat.not_lt_zero _)
  | n + 1, h, hj => by
    show xf_sum g n + g n = xf_sum f n + f n + (g k - f k)
    by_cases hkn : k = n
    · subst hkn
      rw [zs_c (f := f) (g := g) (fun j hjk => hj j (by omega) (by omega))]
      grind
    · rw [zs_up (by omega) (fun j hj1 hj2 => hj j (by omega) hj2), hj n (by omega) (by omega)]
      grind
end
section
/-! WHAT HOLDS OF A MINISTRY: n people, T ticks, G a bound of the ticks at which people went, B a bound of halves and servings -/
def zi_P (G : Nat) (f e : Nat → Int32) : Prop := ∃ m t : Nat, 1 ≤ m ∧ m ≤ 8 ∧ f 2 = nI m ∧ f 4 = nI t ∧ (∀ j, j < m → ∃ w, w < 6 ∧ e j = nI w) ∧ (((f 3 = nI 0 ∨ f 3 = nI 1) ∧ t < m ∧ f 10 = -6 ∧ (f 5 = nI 0 ∨ (f 5 = nI 1 ∧ 0 < t))) ∨ (f 3 = nI 2 ∧ t = m ∧ f 5 = nI 0 ∧ ∃ y, y ≤ G ∧ f 10 = nI y) ∨ (f 3 = nI 3 ∧ t < m ∧ f 5 = nI 0 ∧ ∃ y, y ≤ G ∧ f 10 = nI y))
def zi_N (f : Nat → Int32) : Prop := f 2 = nI 0 ∧ f 3 = nI 4 ∧ f 4 = nI 0 ∧ f 5 = nI 0 ∧ f 7 = nI 0 ∧ f 9 = nI 0 ∧ f 10 = -6
def zi_W (B : Nat) (f : Nat → Int32) : Prop := ∃ h s b : Nat, h ≤ B ∧ s ≤ B ∧ b ≤ s ∧ f 2 = nI h ∧ f 3 = nI s ∧ f 4 = nI b
def zi_Lw (a n : Nat) (M : xm_T) (w : Nat) (Q R : List Nat) : Prop := zl_L M (a + 5 * w + 5) Q ∧ zl_L M (a + 5 * w + 7) R ∧ Q.Nodup ∧ R.Nodup ∧ (∀ k, k ∈ Q ↔ k < n ∧ M (a + 2 * k + 34) 3 = nI 0 ∧ zm_wz M (a + 2 * k + 34) = w) ∧ ∀ k, k ∈ R ↔ k < n ∧ M (a + 2 * k + 34) 3 = nI 1 ∧ zm_wz M (a + 2 * k + 34) = w
def zi_L (a n : Nat) (M : xm_T) : Prop := ∃ Q R : Nat → List Nat, ∀ w, w < 6 → zi_Lw a n M w (Q w) (R w)
def zi_S (a : Nat) (M : xm_T) : Prop :=
  xf_sum (fun w => M (a + 5 * w + 4) 2) 6 + xf_sum (fun k => zm_h (M (a + 2 * k + 34) 5)) 24 + M a 5 = nI 48 + M a 6 ∧
  xf_sum (fun w => M (a + 5 * w + 4) 4) 6 = xf_sum (fun k => M (a + 2 * k + 34) 9) 24 ∧
  xf_sum (fun w => M (a + 5 * w + 4) 3) 6 = xf_sum (fun k => M (a + 2 * k + 34) 4) 24 + xf_sum (fun k => M (a + 2 * k + 34) 9) 24
def zi_A (a n T G : Nat) (M : xm_T) : Prop := n ≤ 24 ∧ M a 3 = nI n ∧ M a 4 = nI T ∧ T ≤ G ∧ ∃ v, v ≤ 20 ∧ M (a + 1) 1 = nI v
def zi (a : Nat) (M : xm_T) (n T G B : Nat) : Prop :=
  zi_A a n T G M ∧ (∀ k, k < 24 → M (a + 2 * k + 34) 0 = nI k) ∧ (∀ k, n ≤ k → k < 24 → zi_N (M (a + 2 * k + 34))) ∧ (∀ k, k < n → zi_P G (M (a + 2 * k + 34)) (M (a + 2 * k + 35))) ∧ (∀ w, w < 6 → zi_W B (M (a + 5 * w + 4))) ∧ zi_L a n M ∧ zi_S a M
/-- the person at p is at the window w, the one of its errand's m windows that has the place t -/
def zk_at (M : xm_T) (p t m w : Nat) : Prop := M p 2 = nI m ∧ M p 4 = nI t ∧ t < m ∧ m ≤ 8 ∧ M (p + 1) t = nI w ∧ w < 6
theorem zk_wz {M : xm_T} {p t m w : Nat} (h : zk_at M p t m w) : zm_wz M p = w := by
  obtain ⟨h1, h2, h3, h4, h5, h6⟩ := h
  unfold zm_wz
  rw [h2, nI_clamp (by omega), h5, nI_clamp (by omega)]
theorem zi.n {a n T G B : Nat} {M : xm_T} (h : zi a M n T G B) : n ≤ 24 := h.1.1
theorem zi_P.at {G p : Nat} {M : xm_T} (h : zi_P G (M p) (M (p + 1))) (hw : M p 3 = nI 0 ∨ M p 3 = nI 1) : ∃ t m w, zk_at M p t m w := by
  obtain ⟨m, t, h1, h2, h3, h4, h5, h6⟩ := h
  have e01 : ¬ nI 0 = nI 2 := by decide
  have e02 : ¬ nI 1 = nI 2 := by decide
  have e03 : ¬ nI 0 = nI 3 := by decide
  have e04 : ¬ nI 1 = nI 3 := by decide
  have ht : t < m := by
    rcases h6 with ⟨-, q, -⟩ | ⟨q, -⟩ | ⟨q, -⟩
    · exact q
    · rcases hw with z | z
      · exact absurd (z.symm.trans q) e01
      · exact absurd (z.symm.trans q) e02
    · rcases hw with z | z
      · exact absurd (z.symm.trans q) e03
      · exact absurd (z.symm.trans q) e04
  obtain ⟨w, hw6, he⟩ := h5 t ht
  exact ⟨t, m, w, h3, h4, ht, h2, he, hw6⟩
theorem zi_P.mono {G G' : Nat} {f e : Nat → Int32} (h : zi_P G f e) (hG : G ≤ G') : zi_P G' f e := by
  obtain ⟨m, t, h1, h2, h3, h4, h5, h6⟩ := h
  refine ⟨m, t, h1, h2, h3, h4, h5, ?_⟩
  rcases h6 with q | ⟨q1, q2, q3, y, q4, q5⟩ | ⟨q1, q2, q3, y, q4, q5⟩
  · exact Or.inl q
  · exact Or.inr (Or.inl ⟨q1, q2, q3, y, by omega, q5⟩)
  · exact Or.inr (Or.inr ⟨q1, q2, q3, y, by omega, q5⟩)
theorem zi_W.mono {B B' : Nat} {f : Nat → Int32} (h : zi_W B f) (hB : B ≤ B') : zi_W B' f := by
  obtain ⟨x, s, b, h1, h2, h3, h4⟩ := h
  exact ⟨x, s, b, by omega, by omega, h3, h4⟩
theorem zi.mono {a n T G B G' B' : Nat} {M : xm_T} (h : zi a M n T G B) (hG : G ≤ G') (hB : B ≤ B') : zi a M n T G' B' := by
  obtain ⟨⟨h1, h2, h3, h4, h5⟩, g1, g2, g3, g4, g5⟩ := h
  exact ⟨⟨h1, h2, h3, by omega, h5⟩, g1, g2, fun k hk => (g3 k hk).mono hG, fun w hw => (g4 w hw).mono hB, g5⟩
/-- the same as far as it matters -/
def zr (a b n : Nat) (M N : xm_T) : Prop :=
  (∀ i, i < 7 → 3 ≤ i → N b i = M a i) ∧ N (b + 1) 1 = M (a + 1) 1 ∧
  (∀ k, k < 24 → (∀ i, i = 0 ∨ i = 2 ∨ i = 3 ∨ i = 4 ∨ i = 5 ∨ i = 9 ∨ i = 10 ∨ (i = 7 ∧ n ≤ k) → N (b + 2 * k + 34) i = M (a + 2 * k + 34) i) ∧ N (b + 2 * k + 35) = M (a + 2 * k + 35)) ∧
  ∀ w, w < 6 → (∀ i, i < 5 → 2 ≤ i → N (b + 5 * w + 4) i = M (a + 5 * w + 4) i) ∧ N (b + 5 * w + 5) 1 = M (a + 5 * w + 5) 1 ∧ N (b + 5 * w + 6) = M (a + 5 * w + 6) ∧ N (b + 5 * w + 7) 1 = M (a + 5 * w + 7) 1 ∧ N (b + 5 * w + 8) = M (a + 5 * w + 8)
theorem zi_cg {a b n T G B : Nat} {M N : xm_T} (h : zi a M n T G B) (hr : zr a b n M N) : zi b N n T G B := by
  obtain ⟨⟨h1, h2, h3, h4, v, h5, h6⟩, g1, g2, g3, g4, ⟨Q, R, g5⟩, g6, g7, g8⟩ := h
  obtain ⟨r1, r2, r3, r4⟩ := hr
  have wz : ∀ k, k < 24 → zm_wz N (b + 2 * k + 34) = zm_wz M (a + 2 * k + 34) := fun k hk => by
    unfold zm_wz
    rw [(r3 k hk).1 4 (by omega), show N (b + 2 * k + 34 + 1) = M (a + 2 * k + 34 + 1) from (r3 k hk).2]
  refine ⟨⟨h1, by rw [r1 3 (by omega) (by omega)]; exact h2, by rw [r1 4 (by omega) (by omega)]; exact h3, h4, v, h5, by rw [r2]; exact h6⟩, fun k hk => by rw [(r3 k hk).1 0 (by omega)]; exact g1 k hk, fun k hn hk => ?_, fun k hk => ?_, fun w hw => ?_, ⟨Q, R, fun w hw => ?_⟩, ?_, ?_, ?_⟩
  · have r := (r3 k hk).1
    unfold zi_N
    rw [r 2 (by omega), r 3 (by omega), r 4 (by omega), r 5 (by omega), r 7 (by omega), r 9 (by omega), r 10 (by omega)]
    exact g2 k hn hk
  · have r := (r3 k (by omega)).1
    unfold zi_P
    rw [r 2 (by omega), r 3 (by omega), r 4 (by omega), r 5 (by omega), r 10 (by omega), (r3 k (by omega)).2]
    exact g3 k hk
  · have r := (r4 w hw).1
    unfold zi_W
    rw [r 2 (by omega) (by omega), r 3 (by omega) (by omega), r 4 (by omega) (by omega)]
    exact g4 w hw
  · obtain ⟨-, p1, p2, p3, p4⟩ := r4 w hw
    obtain ⟨e1, e2, e3, e4, e5, e6⟩ := g5 w hw
    refine ⟨e1.eq p1 p2, e2.eq p3 p4, e3, e4, fun k => ?_, fun k => ?_⟩
    · rw [e5]
      constructor
      · rintro ⟨z1, z2, z3⟩
        exact ⟨z1, by rw [(r3 k (by omega)).1 3 (by omega)]; exact z2, by rw [wz k (by omega)]; exact z3⟩
      · rintro ⟨z1, z2, z3⟩
        exact ⟨z1, by rw [← (r3 k (by omega)).1 3 (by omega)]; exact z2, by rw [← wz k (by omega)]; exact z3⟩
    · rw [e6]
      constructor
      · rintro ⟨z1, z2, z3⟩
        exact ⟨z1, by rw [(r3 k (by omega)).1 3 (by omega)]; exact z2, by rw [wz k (by omega)]; exact z3⟩
      · rintro ⟨z1, z2, z3⟩
        exact ⟨z1, by rw [← (r3 k (by omega)).1 3 (by omega)]; exact z2, by rw [← wz k (by omega)]; exact z3⟩
  · rw [zs_c (f := fun w => M (a + 5 * w + 4) 2) (fun w hw => (r4 w hw).1 2 (by omega) (by omega)), zs_c (f := fun k => zm_h (M (a + 2 * k + 34) 5)) (fun k hk => congrArg zm_h ((r3 k hk).1 5 (by omega))), r1 5 (by omega) (by omega), r1 6 (by omega) (by omega)]
    exact g6
  · rw [zs_c (f := fun w => M (a + 5 * w + 4) 4) (fun w hw => (r4 w hw).1 4 (by omega) (by omega)), zs_c (f := fun k => M (a + 2 * k + 34) 9) (fun k hk => (r3 k hk).1 9 (by omega))]
    exact g7
  · rw [zs_c (f := fun w => M (a + 5 * w + 4) 3) (fun w hw => (r4 w hw).1 3 (by omega) (by omega)), zs_c (f := fun k => M (a + 2 * k + 34) 9) (fun k hk => (r3 k hk).1 9 (by omega)), zs_c (f := fun k => M (a + 2 * k + 34) 4) (fun k hk => (r3 k hk).1 4 (by omega))]
    exact g8
theorem zi_g {a b n T G B : Nat} {M N : xm_T} (h : zi a M n T G B) (hg : zz_g a b M N) : zi b N n T G B := by
  have r : ∀ {x y : Nat} (c : Nat), c < 82 → x = a + c → y = b + c → N y = M x := fun c hc hx hy => by subst hx; subst hy; exact (hg c hc).symm
  refine zi_cg h ⟨fun i _ _ => by rw [r 0 (x := a) (y := b) (by omega) (by omega) (by omega)], by rw [r 1 (x := a + 1) (y := b + 1) (by omega) (by omega) (by omega)], fun k hk => ⟨fun i _ => by rw [r (2 * k + 34) (x := a + 2 * k + 34) (y := b + 2 * k + 34) (by omega) (by omega) (by omega)], r (2 * k + 35) (by omega) (by omega) (by omega)⟩, fun w hw => ⟨fun i _ _ => by rw [r (5 * w + 4) (x := a + 5 * w + 4) (y := b + 5 * w + 4) (by omega) (by omega) (by omega)], by rw [r (5 * w + 5) (x := a + 5 * w + 5) (y := b + 5 * w + 5) (by omega) (by omega) (by omega)], r (5 * w + 6) (by omega) (by omega) (by omega), by rw [r (5 * w + 7) (x := a + 5 * w + 7) (y := b + 5 * w + 7) (by omega) (by omega) (by omega)], r (5 * w + 8) (by omega) (by omega) (by omega)⟩⟩
/-- a change in the slots of people that don't matter -/
theorem zi_mi {a n T G B : Nat} {M N : xm_T} (h : zi a M n T G B) (ho : ∀ x, (∀ k, k < 24 → x ≠ a + 2 * k + 34) → N x = M x) (hp : ∀ k, k < 24 → ∀ i, i = 0 ∨ i = 2 ∨ i = 3 ∨ i = 4 ∨ i = 5 ∨ i = 9 ∨ i = 10 ∨ (i = 7 ∧ n ≤ k) → N (a + 2 * k + 34) i = M (a + 2 * k + 34) i) : zi a N n T G B := by
  have r : ∀ c, c < 34 ∨ (∃ k, c = 2 * k + 35) → N (a + c) = M (a + c) := fun c hc => ho _ (fun k hk z => by
    rcases hc with hc | ⟨j, hc⟩ <;> omega)
  refine zi_cg h ⟨fun i _ _ => by rw [show N a = M a from r 0 (by omega)], by rw [r 1 (by omega)], fun k hk => ⟨hp k hk, by rw [show a + 2 * k + 35 = a + (2 * k + 35) by omega]; exact r _ (Or.inr ⟨k, rfl⟩)⟩, fun w hw => ?_⟩
  have q : ∀ i, i < 5 → N (a + 5 * w + 4 + i) = M (a + 5 * w + 4 + i) := fun i hi => by
    rw [show a + 5 * w + 4 + i = a + (5 * w + 4 + i) by omega]; exact r _ (by omega)
  exact ⟨fun i _ _ => by rw [show N (a + 5 * w + 4) = M (a + 5 * w + 4) from q 0 (by omega)], congrFun (q 1 (by omega)) 1, q 2 (by omega), congrFun (q 3 (by omega)) 1, q 4 (by omega)⟩
/-- one person moves, one window's row changes -/
theorem zi_mv {a n T G B B' k w : Nat} {M N : xm_T} (h : zi a M n T G B) (hk : k < n) (hw : w < 6) (hB : B ≤ B')
    (ha : N a 3 = M a 3 ∧ N a 4 = M a 4 ∧ N a 6 = M a 6) (hs : N (a + 1) = M (a + 1))
    (hp : ∀ j, j < 24 → j ≠ k → N (a + 2 * j + 34) = M (a + 2 * j + 34)) (he : ∀ j, j < 24 → N (a + 2 * j + 35) = M (a + 2 * j + 35)) (h0 : N (a + 2 * k + 34) 0 = M (a + 2 * k + 34) 0)
    (hP : zi_P G (N (a + 2 * k + 34)) (M (a + 2 * k + 35)))
    (hv : ∀ v, v < 6 → v ≠ w → N (a + 5 * v + 4) = M (a + 5 * v + 4)) (hW : zi_W B' (N (a + 5 * w + 4))) (hL : zi_L a n N)
    (s1 : N (a + 5 * w + 4) 2 + zm_h (N (a + 2 * k + 34) 5) + N a 5 = M (a + 5 * w + 4) 2 + zm_h (M (a + 2 * k + 34) 5) + M a 5)
    (s2 : N (a + 5 * w + 4) 4 + M (a + 2 * k + 34) 9 = M (a + 5 * w + 4) 4 + N (a + 2 * k + 34) 9)
    (s3 : N (a + 5 * w + 4) 3 + M (a + 2 * k + 34) 4 + M (a + 2 * k + 34) 9 = M (a + 5 * w + 4) 3 + N (a + 2 * k + 34) 4 + N (a + 2 * k + 34) 9) : zi a N n T G B' := by
  obtain ⟨⟨h1, h2, h3, h4, v, h5, h6⟩, g1, g2, g3, g4, -, g6, g7, g8⟩ := h
  have hk24 : k < 24 := by omega
  refine ⟨⟨h1, by rw [ha.1]; exact h2, by rw [ha.2.1]; exact h3, h4, v, h5, by rw [hs]; exact h6⟩, fun j hj => ?_, fun j hn hj => ?_, fun j hj => ?_, fun v hv6 => ?_, hL, ?_, ?_, ?_⟩
  · by_cases q : j = k
    · subst q; rw [h0]; exact g1 j hj
    · rw [hp j hj q]; exact g1 j hj
  · rw [hp j hj (by omega)]; exact g2 j hn hj
  · rw [he j (by omega)]
    by_cases q : j = k
    · subst q; exact hP
    · rw [hp j (by omega) q]; exact g3 j hj
  · by_cases q : v = w
    · subst q; exact hW
    · rw [hv v hv6 q]; exact (g4 v hv6).mono hB
  · rw [zs_up (f := fun w => M (a + 5 * w + 4) 2) (g := fun w => N (a + 5 * w + 4) 2) hw (fun v hv6 q => by show N (a + 5 * v + 4) 2 = _; rw [hv v hv6 q]), zs_up (f := fun k => zm_h (M (a + 2 * k + 34) 5)) (g := fun k => zm_h (N (a + 2 * k + 34) 5)) hk24 (fun j hj q => by show zm_h (N (a + 2 * j + 34) 5) = _; rw [hp j hj q]), ha.2.2]
    grind
  · rw [zs_up (f := fun w => M (a + 5 * w + 4) 4) (g := fun w => N (a + 5 * w + 4) 4) hw (fun v hv6 q => by show N (a + 5 * v + 4) 4 = _; rw [hv v hv6 q]), zs_up (f := fun k => M (a + 2 * k + 34) 9) (g := fun k => N (a + 2 * k + 34) 9) hk24 (fun j hj q => by show N (a + 2 * j + 34) 9 = _; rw [hp j hj q])]
    grind
  · rw [zs_up (f := fun w => M (a + 5 * w + 4) 3) (g := fun w => N (a + 5 * w + 4) 3) hw (fun v hv6 q => by show N (a + 5 * v + 4) 3 = _; rw [hv v hv6 q]), zs_up (f := fun k => M (a + 2 * k + 34) 9) (g := fun k => N (a + 2 * k + 34) 9) hk24 (fun j hj q => by show N (a + 2 * j + 34) 9 = _; rw [hp j hj q]), zs_up (f := fun k => M (a + 2 * k + 34) 4) (g := fun k => N (a + 2 * k + 34) 4) hk24 (fun j hj q => by show N (a + 2 * j + 34) 4 = _; rw [hp j hj q])]
    grind
/-- the lines behind a move of k -/
theorem zi_lv {a n k : Nat} {M N : xm_T} {Q R Q' R' : Nat → List Nat} (hk : k < n) (hn : n ≤ 24) (hold : ∀ w, w < 6 → zi_Lw a n M w (Q w) (R w))
    (hp : ∀ j, j < 24 → j ≠ k → N (a + 2 * j + 34) = M (a + 2 * j + 34)) (he : ∀ j, j < 24 → N (a + 2 * j + 35) = M (a + 2 * j + 35))
    (hnew : ∀ w, w < 6 → zl_L N (a + 5 * w + 5) (Q' w) ∧ zl_L N (a + 5 * w + 7) (R' w) ∧ (Q' w).Nodup ∧ (R' w).Nodup ∧ (∀ j, j ≠ k → (j ∈ Q' w ↔ j ∈ Q w)) ∧ (∀ j, j ≠ k → (j ∈ R' w ↔ j ∈ R w)) ∧ (k ∈ Q' w ↔ N (a + 2 * k + 34) 3 = nI 0 ∧ zm_wz N (a + 2 * k + 34) = w) ∧ (k ∈ R' w ↔ N (a + 2 * k + 34) 3 = nI 1 ∧ zm_wz N (a + 2 * k + 34) = w)) : zi_L a n N := by
  have wz : ∀ j, j < 24 → j ≠ k → zm_wz N (a + 2 * j + 34) = zm_wz M (a + 2 * j + 34) := fun j hj q => by
    unfold zm_wz
    rw [hp j hj q, show N (a + 2 * j + 34 + 1) = M (a + 2 * j + 34 + 1) from he j hj]
  refine ⟨Q', R', fun w hw => ?_⟩
  obtain ⟨-, -, -, -, e5, e6⟩ := hold w hw
  obtain ⟨f1, f2, f3, f4, f5, f6, f7, f8⟩ := hnew w hw
  refine ⟨f1, f2, f3, f4, fun j => ?_, fun j => ?_⟩
  · by_cases q : j = k
    · subst q
      rw [f7]
      exact ⟨fun z => ⟨hk, z⟩, fun z => z.2⟩
    · rw [f5 j q, e5]
      constructor
      · rintro ⟨z1, z2⟩
        exact ⟨z1, by rw [hp j (by omega) q, wz j (by omega) q]; exact z2⟩
      · rintro ⟨z1, z2⟩
        exact ⟨z1, by rw [← wz j (by omega) q, ← hp j (by omega) q]; exact z2⟩
  · by_cases q : j = k
    · subst q
      rw [f8]
      exact ⟨fun z => ⟨hk, z⟩, fun z => z.2⟩
    · rw [f6 j q, e6]
      constructor
      · rintro ⟨z1, z2⟩
        exact ⟨z1, by rw [hp j (by omega) q, wz j (by omega) q]; exact z2⟩
      · rintro ⟨z1, z2⟩
        exact ⟨z1, by rw [← wz j (by omega) q, ← hp j (by omega) q]; exact z2⟩
end
section
/-! THE STEPS KEEP IT -/
theorem zu_3 (f : Nat → Int32) (i k : Nat) (v : Int32) (h : i ≠ k) : upd f k v i = f i := if_neg h
theorem zu_s (f : Nat → Int32) (k : Nat) (v : Int32) : upd f k v k = v := if_pos rfl
theorem zi_L.old {a n T G B : Nat} {M : xm_T} (h : zi a M n T G B) : zi_L a n M := h.2.2.2.2.2.1
/-- all of a line's numbers are people's -/
theorem zi_Lw.q {a n w : Nat} {M : xm_T} {Q R : List Nat} (h : zi_Lw a n M w Q R) (hn : n ≤ 24) : ∀ x, x ∈ Q → x < 24 := fun x hx => by have := ((h.2.2.2.2.1 x).mp hx).1; omega
theorem zi_Lw.r {a n w : Nat} {M : xm_T} {Q R : List Nat} (h : zi_Lw a n M w Q R) (hn : n ≤ 24) : ∀ x, x ∈ R → x < 24 := fun x hx => by have := ((h.2.2.2.2.2 x).mp hx).1; omega
theorem zl_room {w : List Nat} {k : Nat} (hN : w.Nodup) (hb : ∀ x, x ∈ w → x < 24) (hk : k < 24) (hkw : k ∉ w) : w.length < 24 := by
  have h1 := zl_le24 (n := 24) (zl_apN hN hkw) (fun x hx => by
    rcases List.mem_append.mp hx with q | q
    · exact hb x q
    · rw [List.mem_singleton.mp q]; exact hk)
  rw [List.length_append] at h1
  have : ([k] : List Nat).length = 1 := rfl
  omega
theorem zn_01 : ¬ nI 0 = nI 1 := by decide
theorem zn_10 : ¬ nI 1 = nI 0 := by decide
/-- from a window's serving line into a queue -/
theorem zi_q {a n T G B B' w j k t m w' : Nat} {M X : xm_T} {Q R : Nat → List Nat} (h : zi a M n T G B) (hB : B ≤ B') (hw : w < 6) (hold : ∀ v, v < 6 → zi_Lw a n M v (Q v) (R v)) (hj : (R w)[j]? = some k)
    (hX : ∀ x, x ≠ a + 2 * k + 34 → x ≠ a + 5 * w + 4 → X x = zl_rv (a + 5 * w + 7) (nI k) M x) (h0 : X (a + 2 * k + 34) 0 = nI k) (hat : zk_at X (a + 2 * k + 34) t m w')
    (hP : zi_P G (upd (upd (X (a + 2 * k + 34)) 3 (nI 0)) 8 (nI 0)) (M (a + 2 * k + 35))) (hW : zi_W B' (X (a + 5 * w + 4)))
    (s1 : X (a + 5 * w + 4) 2 + zm_h (X (a + 2 * k + 34) 5) = M (a + 5 * w + 4) 2 + zm_h (M (a + 2 * k + 34) 5))
    (s2 : X (a + 5 * w + 4) 4 + M (a + 2 * k + 34) 9 = M (a + 5 * w + 4) 4 + X (a + 2 * k + 34) 9)
    (s3 : X (a + 5 * w + 4) 3 + M (a + 2 * k + 34) 4 + M (a + 2 * k + 34) 9 = M (a + 5 * w + 4) 3 + X (a + 2 * k + 34) 4 + X (a + 2 * k + 34) 9) :
    zi a (zm_jn a k X) n T G B' ∧ (zm_jn a k X) (a + 5 * w + 7) 1 = nI ((R w).length - 1) := by
  have hn := h.n
  have hkR := List.mem_of_getElem? hj
  obtain ⟨hkn, hk1, hkw⟩ := ((hold w hw).2.2.2.2.2 k).mp hkR
  have hk24 : k < 24 := by omega
  have hw' := hat.2.2.2.2.2
  have ejn : zm_jn a k X = zl_ap (a + 5 * w' + 5) (nI k) (xu_p (xu_p X (a + 2 * k + 34) 3 (nI 0)) (a + 2 * k + 34) 8 (nI 0)) := by
    unfold zm_jn
    rw [zk_wz hat, if_pos hw', h0]
  obtain ⟨Y, eY⟩ : ∃ Y, Y = zm_jn a k X := ⟨_, rfl⟩
  rw [← eY]
  rw [ejn] at eY
  have yP : Y (a + 2 * k + 34) = upd (upd (X (a + 2 * k + 34)) 3 (nI 0)) 8 (nI 0) := by
    rw [eY, zl_ap_o (by omega) (by omega)]
    unfold xu_p
    rw [xr_s, xr_s]
  have yX : ∀ x, x ≠ a + 5 * w' + 5 → x ≠ a + 5 * w' + 6 → x ≠ a + 2 * k + 34 → Y x = X x := fun x h1 h2 h3 => by
    rw [eY, zl_ap_o h1 h2]
    unfold xu_p
    rw [xr_n _ _ h3, xr_n _ _ h3]
  have yM : ∀ x, x ≠ a + 5 * w' + 5 → x ≠ a + 5 * w' + 6 → x ≠ a + 2 * k + 34 → x ≠ a + 5 * w + 4 → x ≠ a + 5 * w + 7 → x ≠ a + 5 * w + 8 → Y x = M x := fun x h1 h2 h3 h4 h5 h6 => by
    rw [yX x h1 h2 h3, hX x h3 h4, zl_rv_o h5 h6]
  have yV : Y (a + 5 * w + 4) = X (a + 5 * w + 4) := yX _ (by omega) (by omega) (by omega)
  have hlR : zl_L Y (a + 5 * w + 7) ((R w).eraseIdx j) := ((hold w hw).2.1.rv (hold w hw).2.2.2.1 ((hold w hw).r hn) hj).eq (by rw [yX _ (by omega) (by omega) (by omega), hX _ (by omega) (by omega)]) (by rw [yX _ (by omega) (by omega) (by omega), hX _ (by omega) (by omega)])
  have hkQ : ∀ v, v < 6 → k ∉ Q v := fun v hv z => by
    have := ((hold v hv).2.2.2.2.1 k).mp z
    exact zn_01 (this.2.1.symm.trans hk1)
  have hroom : (Q w').length < 24 := zl_room (hold w' hw').2.2.1 ((hold w' hw').q hn) hk24 (hkQ w' hw')
  have hlQ : zl_L Y (a + 5 * w' + 5) (Q w' ++ [k]) := by
    rw [eY]
    refine zl_L.ap ((hold w' hw').1.eq ?_ ?_) hroom k
    · unfold xu_p
      rw [xr_n _ _ (by omega), xr_n _ _ (by omega), hX _ (by omega) (by omega), zl_rv_o (by omega) (by omega)]
    · unfold xu_p
      rw [xr_n _ _ (by omega), xr_n _ _ (by omega), hX _ (by omega) (by omega), zl_rv_o (by omega) (by omega)]
  have hwz : zm_wz Y (a + 2 * k + 34) = w' := by
    have : zm_wz Y (a + 2 * k + 34) = zm_wz X (a + 2 * k + 34) := by
      unfold zm_wz
      rw [yP, yX (a + 2 * k + 34 + 1) (by omega) (by omega) (by omega)]
      rfl
    rw [this, zk_wz hat]
  have hY3 : Y (a + 2 * k + 34) 3 = nI 0 := by rw [yP]; rfl
  have hp : ∀ i, i < 24 → i ≠ k → Y (a + 2 * i + 34) = M (a + 2 * i + 34) := fun i hi hik => yM _ (by omega) (by omega) (by omega) (by omega) (by omega) (by omega)
  have he : ∀ i, i < 24 → Y (a + 2 * i + 35) = M (a + 2 * i + 35) := fun i hi => yM _ (by omega) (by omega) (by omega) (by omega) (by omega) (by omega)
  have hA : Y a = M a := yM _ (by omega) (by omega) (by omega) (by omega) (by omega) (by omega)
  refine ⟨zi_mv h hkn hw hB ⟨by rw [hA], by rw [hA], by rw [hA]⟩ (yM _ (by omega) (by omega) (by omega) (by omega) (by omega) (by omega)) hp he (by rw [yP, h.2.1 k hk24]; exact h0) (by rw [yP]; exact hP) (fun v hv hvw => yM _ (by omega) (by omega) (by omega) (by omega) (by omega) (by omega)) (by rw [yV]; exact hW) ?_ ?_ ?_ ?_, ?_⟩
  · refine zi_lv (Q' := fun v => if v = w' then Q v ++ [k] else Q v) (R' := fun v => if v = w then (R v).eraseIdx j else R v) hkn hn hold hp he (fun v hv => ?_)
    have hq : zl_L Y (a + 5 * v + 5) (if v = w' then Q v ++ [k] else Q v) ∧ (if v = w' then Q v ++ [k] else Q v).Nodup ∧ (∀ i, i ≠ k → (i ∈ (if v = w' then Q v ++ [k] else Q v) ↔ i ∈ Q v)) ∧ (k ∈ (if v = w' then Q v ++ [k] else Q v) ↔ Y (a + 2 * k + 34) 3 = nI 0 ∧ zm_wz Y (a + 2 * k + 34) = v) := by
      by_cases q : v = w'
      · subst q
        rw [if_pos rfl]
        exact ⟨hlQ, zl_apN (hold v hv).2.2.1 (hkQ v hv), fun i hi => by rw [List.mem_append, List.mem_singleton]; exact ⟨fun z => z.resolve_right hi, Or.inl⟩, ⟨fun _ => ⟨hY3, hwz⟩, fun _ => List.mem_append.mpr (Or.inr (List.mem_singleton.mpr rfl))⟩⟩
      · rw [if_neg q]
        exact ⟨(hold v hv).1.eq (by rw [yM _ (by omega) (by omega) (by omega) (by omega) (by omega) (by omega)]) (yM _ (by omega) (by omega) (by omega) (by omega) (by omega) (by omega)), (hold v hv).2.2.1, fun i _ => Iff.rfl, ⟨fun z => absurd z (hkQ v hv), fun z => absurd (z.2.symm.trans hwz) q⟩⟩
    have hr : zl_L Y (a + 5 * v + 7) (if v = w then (R v).eraseIdx j else R v) ∧ (if v = w then (R v).eraseIdx j else R v).Nodup ∧ (∀ i, i ≠ k → (i ∈ (if v = w then (R v).eraseIdx j else R v) ↔ i ∈ R v)) ∧ (k ∈ (if v = w then (R v).eraseIdx j else R v) ↔ Y (a + 2 * k + 34) 3 = nI 1 ∧ zm_wz Y (a + 2 * k + 34) = v) := by
      have hno : ¬ (Y (a + 2 * k + 34) 3 = nI 1 ∧ zm_wz Y (a + 2 * k + 34) = v) := fun z => zn_01 (hY3.symm.trans z.1)
      by_cases q : v = w
      · subst q
        rw [if_pos rfl]
        have hN := (hold v hv).2.2.2.1
        exact ⟨hlR, zl_erN hN j, fun i hi => by rw [zl_er hN hj]; exact ⟨fun z => z.1, fun z => ⟨z, hi⟩⟩, ⟨fun z => absurd rfl ((zl_er hN hj k).mp z).2, fun z => absurd z hno⟩⟩
      · rw [if_neg q]
        exact ⟨(hold v hv).2.1.eq (by rw [yM _ (by omega) (by omega) (by omega) (by omega) (by omega) (by omega)]) (yM _ (by omega) (by omega) (by omega) (by omega) (by omega) (by omega)), (hold v hv).2.2.2.1, fun i _ => Iff.rfl, ⟨fun z => absurd (hkw.symm.trans (((hold v hv).2.2.2.2.2 k).mp z).2.2).symm q, fun z => absurd z hno⟩⟩
    exact ⟨hq.1, hr.1, hq.2.1, hr.2.1, hq.2.2.1, hr.2.2.1, hq.2.2.2, hr.2.2.2⟩
  · rw [yV, yP, hA]
    exact congrArg (· + M a 5) s1
  · rw [yV, yP]
    exact s2
  · rw [yV, yP]
    exact s3
  · rw [hlR.2.1, List.length_eraseIdx_of_lt (List.getElem?_eq_some_iff.mp hj).1]
/-- from a window's serving line away: done -/
theorem zi_d {a n T G B B' w j k : Nat} {M Y : xm_T} {Q R : Nat → List Nat} (h : zi a M n T G B) (hB : B ≤ B') (hw : w < 6) (hold : ∀ v, v < 6 → zi_Lw a n M v (Q v) (R v)) (hj : (R w)[j]? = some k)
    (hX : ∀ x, x ≠ a + 2 * k + 34 → x ≠ a + 5 * w + 4 → Y x = zl_rv (a + 5 * w + 7) (nI k) M x) (h0 : Y (a + 2 * k + 34) 0 = nI k) (h3 : Y (a + 2 * k + 34) 3 = nI 2)
    (hP : zi_P G (Y (a + 2 * k + 34)) (M (a + 2 * k + 35))) (hW : zi_W B' (Y (a + 5 * w + 4)))
    (s1 : Y (a + 5 * w + 4) 2 + zm_h (Y (a + 2 * k + 34) 5) = M (a + 5 * w + 4) 2 + zm_h (M (a + 2 * k + 34) 5))
    (s2 : Y (a + 5 * w + 4) 4 + M (a + 2 * k + 34) 9 = M (a + 5 * w + 4) 4 + Y (a + 2 * k + 34) 9)
    (s3 : Y (a + 5 * w + 4) 3 + M (a + 2 * k + 34) 4 + M (a + 2 * k + 34) 9 = M (a + 5 * w + 4) 3 + Y (a + 2 * k + 34) 4 + Y (a + 2 * k + 34) 9) :
    zi a Y n T G B' ∧ Y (a + 5 * w + 7) 1 = nI ((R w).length - 1) := by
  have hn := h.n
  have hkR := List.mem_of_getElem? hj
  obtain ⟨hkn, hk1, hkw⟩ := ((hold w hw).2.2.2.2.2 k).mp hkR
  have hk24 : k < 24 := by omega
  have yM : ∀ x, x ≠ a + 2 * k + 34 → x ≠ a + 5 * w + 4 → x ≠ a + 5 * w + 7 → x ≠ a + 5 * w + 8 → Y x = M x := fun x h3 h4 h5 h6 => by
    rw [hX x h3 h4, zl_rv_o h5 h6]
  have hlR : zl_L Y (a + 5 * w + 7) ((R w).eraseIdx j) := ((hold w hw).2.1.rv (hold w hw).2.2.2.1 ((hold w hw).r hn) hj).eq (by rw [hX _ (by omega) (by omega)]) (by rw [hX _ (by omega) (by omega)])
  have hkQ : ∀ v, v < 6 → k ∉ Q v := fun v hv z => by
    have := ((hold v hv).2.2.2.2.1 k).mp z
    exact zn_01 (this.2.1.symm.trans hk1)
  have hp : ∀ i, i < 24 → i ≠ k → Y (a + 2 * i + 34) = M (a + 2 * i + 34) := fun i hi hik => yM _ (by omega) (by omega) (by omega) (by omega)
  have he : ∀ i, i < 24 → Y (a + 2 * i + 35) = M (a + 2 * i + 35) := fun i hi => yM _ (by omega) (by omega) (by omega) (by omega)
  have hA : Y a = M a := yM _ (by omega) (by omega) (by omega) (by omega)
  have h30 : ¬ Y (a + 2 * k + 34) 3 = nI 0 := by rw [h3]; decide
  have h31 : ¬ Y (a + 2 * k + 34) 3 = nI 1 := by rw [h3]; decide
  refine ⟨zi_mv h hkn hw hB ⟨by rw [hA], by rw [hA], by rw [hA]⟩ (yM _ (by omega) (by omega) (by omega) (by omega)) hp he (by rw [h.2.1 k hk24]; exact h0) hP (fun v hv hvw => yM _ (by omega) (by omega) (by omega) (by omega)) hW ?_ (by rw [hA]; exact congrArg (· + M a 5) s1) s2 s3, ?_⟩
  · refine zi_lv (Q' := Q) (R' := fun v => if v = w then (R v).eraseIdx j else R v) hkn hn hold hp he (fun v hv => ?_)
    have hr : zl_L Y (a + 5 * v + 7) (if v = w then (R v).eraseIdx j else R v) ∧ (if v = w then (R v).eraseIdx j else R v).Nodup ∧ (∀ i, i ≠ k → (i ∈ (if v = w then (R v).eraseIdx j else R v) ↔ i ∈ R v)) ∧ (k ∈ (if v = w then (R v).eraseIdx j else R v) ↔ Y (a + 2 * k + 34) 3 = nI 1 ∧ zm_wz Y (a + 2 * k + 34) = v) := by
      have hno : ¬ (Y (a + 2 * k + 34) 3 = nI 1 ∧ zm_wz Y (a + 2 * k + 34) = v) := fun z => h31 z.1
      by_cases q : v = w
      · subst q
        rw [if_pos rfl]
        have hN := (hold v hv).2.2.2.1
        exact ⟨hlR, zl_erN hN j, fun i hi => by rw [zl_er hN hj]; exact ⟨fun z => z.1, fun z => ⟨z, hi⟩⟩, ⟨fun z => absurd rfl ((zl_er hN hj k).mp z).2, fun z => absurd z hno⟩⟩
      · rw [if_neg q]
        exact ⟨(hold v hv).2.1.eq (by rw [yM _ (by omega) (by omega) (by omega) (by omega)]) (yM _ (by omega) (by omega) (by omega) (by omega)), (hold v hv).2.2.2.1, fun i _ => Iff.rfl, ⟨fun z => absurd (hkw.symm.trans (((hold v hv).2.2.2.2.2 k).mp z).2.2).symm q, fun z => absurd z hno⟩⟩
    exact ⟨(hold v hv).1.eq (by rw [yM _ (by omega) (by omega) (by omega) (by omega)]) (yM _ (by omega) (by omega) (by omega) (by omega)), hr.1, (hold v hv).2.2.1, hr.2.1, fun i _ => Iff.rfl, hr.2.2.1, ⟨fun z => absurd z (hkQ v hv), fun z => absurd z.1 h30⟩, hr.2.2.2⟩
  · rw [hlR.2.1, List.length_eraseIdx_of_lt (List.getElem?_eq_some_iff.mp hj).1]
theorem zh_0 {v : Int32} (h : v = nI 0) : zm_h v = nI 0 := by subst h; rfl
theorem zh_1 {v : Int32} (h : v = nI 1) : zm_h v = nI 1 := by subst h; rfl
theorem zi_fi {a n T G B w j k : Nat} {M : xm_T} {Q R : Nat → List Nat} (h : zi a M n T G B) (hT : T + 1 ≤ G) (hB : B + 1 < 2 ^ 31) (hw : w < 6) (hold : ∀ v, v < 6 → zi_Lw a n M v (Q v) (R v)) (hj : (R w)[j]? = some k) :
    zi a (zm_fi a w k (zl_rv (a + 5 * w + 7) (nI k) M)) n T G (B + 1) ∧ (zm_fi a w k (zl_rv (a + 5 * w + 7) (nI k) M)) (a + 5 * w + 7) 1 = nI ((R w).length - 1) := by
  obtain ⟨hkn, hk1, hkw⟩ := ((hold w hw).2.2.2.2.2 k).mp (List.mem_of_getElem? hj)
  have hn := h.n
  have hk24 : k < 24 := by omega
  have hk0 := h.2.1 k hk24
  have hP := h.2.2.2.1 k hkn
  obtain ⟨m, t, p1, p2, p3, p4, p5, p6⟩ := hP
  obtain ⟨pt, p10, ph⟩ : t < m ∧ M (a + 2 * k + 34) 10 = -6 ∧ (M (a + 2 * k + 34) 5 = nI 0 ∨ (M (a + 2 * k + 34) 5 = nI 1 ∧ 0 < t)) := by
    rcases p6 with q | q | q
    · exact q.2
    · exact absurd (hk1.symm.trans q.1) (by decide)
    · exact absurd (hk1.symm.trans q.1) (by decide)
  obtain ⟨hv, sv, bv, w1, w2, w3, w4, w5, w6⟩ := h.2.2.2.2.1 w hw
  obtain ⟨N, eN⟩ : ∃ N, N = zl_rv (a + 5 * w + 7) (nI k) M := ⟨_, rfl⟩
  have nM : ∀ x, x ≠ a + 5 * w + 7 → x ≠ a + 5 * w + 8 → N x = M x := fun x h1 h2 => by rw [eN, zl_rv_o h1 h2]
  have nP : N (a + 2 * k + 34) = M (a + 2 * k + 34) := nM _ (by omega) (by omega)
  have nV : N (a + 5 * w + 4) = M (a + 5 * w + 4) := nM _ (by omega) (by omega)
  have nA : N a = M a := nM _ (by omega) (by omega)
  have nE : N (a + 2 * k + 34 + 1) = M (a + 2 * k + 35) := nM _ (by omega) (by omega)
  have a4 := h.1.2.2.1
  rw [← eN]
  unfold zm_fi
  rw [nP, nV, p4, p3, w4]
  have e1 : nI t + nI 1 = nI (t + 1) := nI_add t 1
  have e3 : nI sv + nI 1 = nI (sv + 1) := nI_add sv 1
  by_cases q : nI t + nI 1 < nI m
  · rw [if_pos q]
    have htm : t + 1 < m := by rw [e1] at q; exact (nI_ltI (by omega) (by omega)).mp q
    obtain ⟨w', hw', hE'⟩ := p5 (t + 1) htm
    obtain ⟨w0, hw0, hE0⟩ := p5 t pt
    by_cases q2 : nI hv ≤ 0
    · rw [if_pos q2]
      have hv0 : hv = 0 := by
        rcases Nat.eq_zero_or_pos hv with z | z
        · exact z
        · exact absurd q2 (nI_nle z (by omega))
      by_cases q3 : M (a + 2 * k + 34) 5 = 0
      · rw [if_pos q3]
        unfold zm_f3
        rw [nP, nV]
        refine zi_q (t := t) (m := m) (w' := w0) h (Nat.le_succ B) hw hold hj (fun x g1 g2 => ?_) ?_ ?_ ?_ ?_ ?_ ?_ ?_
        · rw [← eN]; simp only [xu_p]; rw [xr_n _ _ g1, xr_n _ _ g2, xr_n _ _ g1, xr_n _ _ g2]
        · simp (disch := omega) only [xu_p, xr_s, xr_n, nP, upd]; exact hk0
        · refine ⟨?_, ?_, pt, p2, ?_, hw0⟩
          · simp (disch := omega) only [xu_p, xr_s, xr_n, nP, upd]; exact p3
          · simp (disch := omega) only [xu_p, xr_s, xr_n, nP, upd]; exact p4
          · simp (disch := omega) only [xu_p, xr_s, xr_n, nE]; exact hE0
        · refine ⟨m, t, p1, p2, ?_, ?_, p5, Or.inl ⟨Or.inl ?_, pt, ?_, ?_⟩⟩
          · simp (disch := omega) only [xu_p, xr_s, xr_n, nP, upd]; exact p3
          · simp (disch := omega) only [xu_p, xr_s, xr_n, nP, upd]; exact p4
          · rfl
          · simp (disch := omega) only [xu_p, xr_s, xr_n, nP, upd]; exact p10
          · simp (disch := omega) only [xu_p, xr_s, xr_n, nP, upd]; exact ph
        · refine ⟨hv, sv + 1, bv + 1, by omega, by omega, by omega, ?_, ?_, ?_⟩
          · simp (disch := omega) only [xu_p, xr_s, xr_n, nV, upd]; exact w4
          · simp (disch := omega) only [xu_p, xr_s, xr_n, nV, upd]; exact (by rw [w5]; exact e3)
          · simp (disch := omega) only [xu_p, xr_s, xr_n, nV, upd]; exact (by rw [w6]; exact nI_add bv 1)
        · simp (disch := omega) only [xu_p, xr_s, xr_n, nP, nV, upd]; rfl
        · simp (disch := omega) only [xu_p, xr_s, xr_n, nP, nV, upd]; show _ + nI 1 + _ = _ + (_ + nI 1); grind
        · simp (disch := omega) only [xu_p, xr_s, xr_n, nP, nV, upd]; show _ + nI 1 + _ + _ = _ + _ + (_ + nI 1); grind
      · rw [if_neg q3]
        have ph1 : M (a + 2 * k + 34) 5 = nI 1 := (ph.resolve_left q3).1
        unfold zm_f2
        rw [nP, nV]
        refine zi_q (t := t + 1) (m := m) (w' := w') h (Nat.le_succ B) hw hold hj (fun x g1 g2 => ?_) ?_ ?_ ?_ ?_ ?_ ?_ ?_
        · rw [← eN]; simp only [xu_p]; rw [xr_n _ _ g1, xr_n _ _ g1, xr_n _ _ g2]
        · simp (disch := omega) only [xu_p, xr_s, xr_n, nP, upd]; exact hk0
        · refine ⟨?_, ?_, htm, p2, ?_, hw'⟩
          · simp (disch := omega) only [xu_p, xr_s, xr_n, nP, upd]; exact p3
          · simp (disch := omega) only [xu_p, xr_s, xr_n, nP, upd]; exact (by rw [p4]; exact e1)
          · simp (disch := omega) only [xu_p, xr_s, xr_n, nE]; exact hE'
        · refine ⟨m, t + 1, p1, p2, ?_, ?_, p5, Or.inl ⟨Or.inl ?_, htm, ?_, Or.inr ⟨?_, by omega⟩⟩⟩
          · simp (disch := omega) only [xu_p, xr_s, xr_n, nP, upd]; exact p3
          · simp (disch := omega) only [xu_p, xr_s, xr_n, nP, upd]; exact (by rw [p4]; exact e1)
          · rfl
          · simp (disch := omega) only [xu_p, xr_s, xr_n, nP, upd]; exact p10
          · simp (disch := omega) only [xu_p, xr_s, xr_n, nP, upd]; exact ph1
        · refine ⟨hv, sv + 1, bv, by omega, by omega, by omega, ?_, ?_, ?_⟩
          · simp (disch := omega) only [xu_p, xr_s, xr_n, nV, upd]; exact w4
          · simp (disch := omega) only [xu_p, xr_s, xr_n, nV, upd]; exact (by rw [w5]; exact e3)
          · simp (disch := omega) only [xu_p, xr_s, xr_n, nV, upd]; exact w6
        · simp (disch := omega) only [xu_p, xr_s, xr_n, nP, nV, upd]; rfl
        · simp (disch := omega) only [xu_p, xr_s, xr_n, nP, nV, upd]; rfl
        · simp (disch := omega) only [xu_p, xr_s, xr_n, nP, nV, upd]; show _ + nI 1 + _ + _ = _ + (_ + nI 1) + _; grind
    · rw [if_neg q2]
      have hvp : 0 < hv := by
        rcases Nat.eq_zero_or_pos hv with z | z
        · exact absurd (by rw [z]; decide) q2
        · exact z
      unfold zm_f1
      rw [nP, nV]
      refine zi_q (t := t + 1) (m := m) (w' := w') h (Nat.le_succ B) hw hold hj (fun x g1 g2 => ?_) ?_ ?_ ?_ ?_ ?_ ?_ ?_
      · rw [← eN]; simp only [xu_p]; rw [xr_n _ _ g1, xr_n _ _ g1, xr_n _ _ g1, xr_n _ _ g2, xr_n _ _ g2]
      · simp (disch := omega) only [xu_p, xr_s, xr_n, nP, upd]; exact hk0
      · refine ⟨?_, ?_, htm, p2, ?_, hw'⟩
        · simp (disch := omega) only [xu_p, xr_s, xr_n, nP, upd]; exact p3
        · simp (disch := omega) only [xu_p, xr_s, xr_n, nP, upd]; exact (by rw [p4]; exact e1)
        · simp (disch := omega) only [xu_p, xr_s, xr_n, nE]; exact hE'
      · refine ⟨m, t + 1, p1, p2, ?_, ?_, p5, Or.inl ⟨Or.inl ?_, htm, ?_, Or.inr ⟨?_, by omega⟩⟩⟩
        · simp (disch := omega) only [xu_p, xr_s, xr_n, nP, upd]; exact p3
        · simp (disch := omega) only [xu_p, xr_s, xr_n, nP, upd]; exact (by rw [p4]; exact e1)
        · rfl
        · simp (disch := omega) only [xu_p, xr_s, xr_n, nP, upd]; exact p10
        · simp (disch := omega) only [xu_p, xr_s, xr_n, nP, upd]; rfl
      · rcases ph with z | ⟨z, -⟩
        · refine ⟨hv - 1, sv + 1, bv, by omega, by omega, by omega, ?_, ?_, ?_⟩
          · simp (disch := omega) only [xu_p, xr_s, xr_n, nV, upd]
            show M (a + 5 * w + 4) 2 + (if M (a + 2 * k + 34) 5 = 0 then (-1) else nI 0) = _
            rw [if_pos (show M (a + 2 * k + 34) 5 = 0 from z), w4]
            have e := nI_pred (hv - 1)
            rw [show hv - 1 + 1 = hv by omega] at e
            rw [← e]
            grind
          · simp (disch := omega) only [xu_p, xr_s, xr_n, nV, upd]; exact (by rw [w5]; exact e3)
          · simp (disch := omega) only [xu_p, xr_s, xr_n, nV, upd]; exact w6
        · refine ⟨hv, sv + 1, bv, by omega, by omega, by omega, ?_, ?_, ?_⟩
          · simp (disch := omega) only [xu_p, xr_s, xr_n, nV, upd]
            show M (a + 5 * w + 4) 2 + (if M (a + 2 * k + 34) 5 = 0 then (-1) else nI 0) = _
            rw [if_neg (by rw [z]; decide), w4]
            exact nI_add hv 0
          · simp (disch := omega) only [xu_p, xr_s, xr_n, nV, upd]; exact (by rw [w5]; exact e3)
          · simp (disch := omega) only [xu_p, xr_s, xr_n, nV, upd]; exact w6
      · simp (disch := omega) only [xu_p, xr_s, xr_n, nP, nV, upd]
        show M (a + 5 * w + 4) 2 + (if M (a + 2 * k + 34) 5 = 0 then (-1) else nI 0) + zm_h (nI 1) = _
        rcases ph with z | ⟨z, -⟩
        · rw [if_pos (show M (a + 2 * k + 34) 5 = 0 from z), zh_0 z, zh_1 rfl, show nI 1 = 1 from rfl, show nI 0 = 0 from rfl]; grind
        · rw [if_neg (by rw [z]; decide), zh_1 z, zh_1 rfl, show nI 0 = 0 from rfl]; grind
      · simp (disch := omega) only [xu_p, xr_s, xr_n, nP, nV, upd]; rfl
      · simp (disch := omega) only [xu_p, xr_s, xr_n, nP, nV, upd]; show _ + nI 1 + _ + _ = _ + (_ + nI 1) + _; grind
  · rw [if_neg q]
    have htm : t + 1 = m := by
      have : ¬ t + 1 < m := fun z => q (by rw [e1]; exact nI_lt z (by omega))
      omega
    unfold zm_f0 zm_go
    rw [nP, nV, nA]
    refine zi_d h (Nat.le_succ B) hw hold hj (fun x g1 g2 => ?_) ?_ ?_ ?_ ?_ ?_ ?_ ?_
    · rw [← eN]; simp only [xu_p]; rw [xr_n _ _ g1, xr_n _ _ g1, xr_n _ _ g1, xr_n _ _ g2, xr_n _ _ g1, xr_n _ _ g2]
    · simp (disch := omega) only [xu_p, xr_s, xr_n, nP, upd]; exact hk0
    · simp (disch := omega) only [xu_p, xr_s, xr_n, nP, upd]; rfl
    · refine ⟨m, t + 1, p1, p2, ?_, ?_, p5, Or.inr (Or.inl ⟨?_, htm, ?_, T + 1, hT, ?_⟩)⟩
      · simp (disch := omega) only [xu_p, xr_s, xr_n, nP, upd]; exact p3
      · simp (disch := omega) only [xu_p, xr_s, xr_n, nP, upd]; exact (by rw [p4]; exact e1)
      · simp (disch := omega) only [xu_p, xr_s, xr_n, nP, upd]; rfl
      · simp (disch := omega) only [xu_p, xr_s, xr_n, nP, upd]; rfl
      · simp (disch := omega) only [xu_p, xr_s, xr_n, nP, upd]; exact (by rw [a4]; exact nI_add T 1)
    · refine ⟨hv + (if M (a + 2 * k + 34) 5 = 0 then 0 else 1), sv + 1, bv, by split <;> omega, by omega, by omega, ?_, ?_, ?_⟩
      · simp (disch := omega) only [xu_p, xr_s, xr_n, nV, upd]
        show M (a + 5 * w + 4) 2 + zm_h (M (a + 2 * k + 34) 5) = _
        rw [w4]
        unfold zm_h
        split
        · exact nI_add hv 0
        · exact nI_add hv 1
      · simp (disch := omega) only [xu_p, xr_s, xr_n, nV, upd]; exact (by rw [w5]; exact e3)
      · simp (disch := omega) only [xu_p, xr_s, xr_n, nV, upd]; exact w6
    · simp (disch := omega) only [xu_p, xr_s, xr_n, nP, nV, upd]
      show M (a + 5 * w + 4) 2 + zm_h (M (a + 2 * k + 34) 5) + zm_h (nI 0) = _
      rw [zh_0 rfl, show nI 0 = 0 from rfl]; grind
    · simp (disch := omega) only [xu_p, xr_s, xr_n, nP, nV, upd]; rfl
    · simp (disch := omega) only [xu_p, xr_s, xr_n, nP, nV, upd]; show _ + nI 1 + _ + _ = _ + (_ + nI 1) + _; grind
end
section
/-! CALLS, WAITS, COMINGS; A TICK KEEPS IT -/
theorem zi_c2 {a n T G B w k : Nat} {M : xm_T} {Q R : Nat → List Nat} (h : zi a M n T G B) (hw : w < 6) (hold : ∀ v, v < 6 → zi_Lw a n M v (Q v) (R v)) (hj : (Q w)[0]? = some k) : zi a (zm_c2 a w k M) n T G B := by
  have hn := h.n
  obtain ⟨hkn, hk1, hkw⟩ := ((hold w hw).2.2.2.2.1 k).mp (List.mem_of_getElem? hj)
  have hk24 : k < 24 := by omega
  have hk0 := h.2.1 k hk24
  obtain ⟨Y, eY⟩ : ∃ Y, Y = zm_c2 a w k M := ⟨_, rfl⟩
  rw [← eY]
  unfold zm_c2 at eY
  rw [hk0] at eY
  have hkR : ∀ v, v < 6 → k ∉ R v := fun v hv z => by
    have := ((hold v hv).2.2.2.2.2 k).mp z
    exact zn_01 (hk1.symm.trans this.2.1)
  have yM : ∀ x, x ≠ a + 2 * k + 34 → x ≠ a + 5 * w + 5 → x ≠ a + 5 * w + 6 → x ≠ a + 5 * w + 7 → x ≠ a + 5 * w + 8 → Y x = M x := fun x h1 h2 h3 h4 h5 => by
    rw [eY]; unfold xu_p; rw [xr_n _ _ h1, xr_n _ _ h1, zl_ap_o h4 h5, zl_rv_o h2 h3]
  have yP : Y (a + 2 * k + 34) = upd (upd (M (a + 2 * k + 34)) 3 (nI 1)) 6 (nI 0) := by
    rw [eY]; unfold xu_p; rw [xr_s, xr_s, zl_ap_o (by omega) (by omega), zl_rv_o (by omega) (by omega)]
  have hlQ : zl_L Y (a + 5 * w + 5) ((Q w).eraseIdx 0) := by
    refine ((hold w hw).1.rv (hold w hw).2.2.1 ((hold w hw).q hn) hj).eq ?_ ?_
    · rw [eY]; unfold xu_p; rw [xr_n _ _ (by omega), xr_n _ _ (by omega), zl_ap_o (by omega) (by omega)]
    · rw [eY]; unfold xu_p; rw [xr_n _ _ (by omega), xr_n _ _ (by omega), zl_ap_o (by omega) (by omega)]
  have hlR : zl_L Y (a + 5 * w + 7) (R w ++ [k]) := by
    have g1 : zl_L (zl_rv (a + 5 * w + 5) (nI k) M) (a + 5 * w + 7) (R w) := (hold w hw).2.1.eq (by rw [zl_rv_o (by omega) (by omega)]) (by rw [zl_rv_o (by omega) (by omega)])
    refine (g1.ap (zl_room (hold w hw).2.2.2.1 ((hold w hw).r hn) hk24 (hkR w hw)) k).eq ?_ ?_
    · rw [eY]; unfold xu_p; rw [xr_n _ _ (by omega), xr_n _ _ (by omega)]
    · rw [eY]; unfold xu_p; rw [xr_n _ _ (by omega), xr_n _ _ (by omega)]
  have hp : ∀ i, i < 24 → i ≠ k → Y (a + 2 * i + 34) = M (a + 2 * i + 34) := fun i hi hik => yM _ (by omega) (by omega) (by omega) (by omega) (by omega)
  have he : ∀ i, i < 24 → Y (a + 2 * i + 35) = M (a + 2 * i + 35) := fun i hi => yM _ (by omega) (by omega) (by omega) (by omega) (by omega)
  have hA : Y a = M a := yM _ (by omega) (by omega) (by omega) (by omega) (by omega)
  have hV : ∀ v, v < 6 → Y (a + 5 * v + 4) = M (a + 5 * v + 4) := fun v hv => yM _ (by omega) (by omega) (by omega) (by omega) (by omega)
  have hY3 : Y (a + 2 * k + 34) 3 = nI 1 := by rw [yP]; rfl
  have hwz : zm_wz Y (a + 2 * k + 34) = w := by
    have : zm_wz Y (a + 2 * k + 34) = zm_wz M (a + 2 * k + 34) := by
      unfold zm_wz
      rw [yP, yM (a + 2 * k + 34 + 1) (by omega) (by omega) (by omega) (by omega) (by omega)]
      rfl
    rw [this, hkw]
  refine zi_mv h hkn hw (Nat.le_refl B) ⟨by rw [hA], by rw [hA], by rw [hA]⟩ (yM _ (by omega) (by omega) (by omega) (by omega) (by omega)) hp he (by rw [yP]; rfl) ?_ (fun v hv _ => hV v hv) (by rw [hV w hw]; exact h.2.2.2.2.1 w hw) ?_ (by rw [hV w hw, yP, hA]; rfl) (by rw [hV w hw, yP]; rfl) (by rw [hV w hw, yP]; rfl)
  · obtain ⟨m, t, p1, p2, p3, p4, p5, p6⟩ := h.2.2.2.1 k hkn
    rw [yP]
    refine ⟨m, t, p1, p2, p3, p4, p5, ?_⟩
    rcases p6 with q | q | q
    · exact Or.inl ⟨Or.inr rfl, q.2⟩
    · exact absurd (hk1.symm.trans q.1) (by decide)
    · exact absurd (hk1.symm.trans q.1) (by decide)
  · refine zi_lv (Q' := fun v => if v = w then (Q v).eraseIdx 0 else Q v) (R' := fun v => if v = w then R v ++ [k] else R v) hkn hn hold hp he (fun v hv => ?_)
    have no0 : ¬ (Y (a + 2 * k + 34) 3 = nI 0 ∧ zm_wz Y (a + 2 * k + 34) = v) := fun z => zn_10 (hY3.symm.trans z.1)
    by_cases q : v = w
    · subst q
      simp only [↓reduceIte]
      exact ⟨hlQ, hlR, zl_erN (hold v hv).2.2.1 0, zl_apN (hold v hv).2.2.2.1 (hkR v hv), fun i hi => by rw [zl_er (hold v hv).2.2.1 hj]; exact ⟨fun z => z.1, fun z => ⟨z, hi⟩⟩, fun i hi => by rw [List.mem_append, List.mem_singleton]; exact ⟨fun z => z.resolve_right hi, Or.inl⟩, ⟨fun z => absurd rfl ((zl_er (hold v hv).2.2.1 hj k).mp z).2, fun z => absurd z no0⟩, ⟨fun _ => ⟨hY3, hwz⟩, fun _ => List.mem_append.mpr (Or.inr (List.mem_singleton.mpr rfl))⟩⟩
    · simp only [if_neg q]
      exact ⟨(hold v hv).1.eq (by rw [yM _ (by omega) (by omega) (by omega) (by omega) (by omega)]) (yM _ (by omega) (by omega) (by omega) (by omega) (by omega)), (hold v hv).2.1.eq (by rw [yM _ (by omega) (by omega) (by omega) (by omega) (by omega)]) (yM _ (by omega) (by omega) (by omega) (by omega) (by omega)), (hold v hv).2.2.1, (hold v hv).2.2.2.1, fun i _ => by first | exact trivial | exact Iff.rfl, fun i _ => by first | exact trivial | exact Iff.rfl, ⟨fun z => absurd (hkw.symm.trans (((hold v hv).2.2.2.2.1 k).mp z).2.2).symm q, fun z => absurd z no0⟩, ⟨fun z => absurd z (hkR v hv), fun z => absurd (z.2.symm.trans hwz) q⟩⟩
theorem zi_sa {a n T G B k y : Nat} {M : xm_T} (h : zi a M n T G B) (hkn : k < n) (hk1 : M (a + 2 * k + 34) 3 = nI 0) (hy : y ≤ G) : zi a (zm_sa a k (nI y) M) n T G B := by
  have hn := h.n
  have hk24 : k < 24 := by omega
  have hk0 := h.2.1 k hk24
  obtain ⟨Q, R, hold⟩ := h.2.2.2.2.2.1
  obtain ⟨t, m, w, hat⟩ := (h.2.2.2.1 k hkn).at (Or.inl hk1)
  have hw := hat.2.2.2.2.2
  have hwzM := zk_wz hat
  obtain ⟨j, hj⟩ := List.getElem?_of_mem (((hold w hw).2.2.2.2.1 k).mpr ⟨hkn, hk1, hwzM⟩)
  obtain ⟨Y, eY⟩ : ∃ Y, Y = zm_sa a k (nI y) M := ⟨_, rfl⟩
  rw [← eY]
  unfold zm_sa at eY
  rw [hwzM, if_pos hw, hk0] at eY
  have hkR : ∀ v, v < 6 → k ∉ R v := fun v hv z => by
    have := ((hold v hv).2.2.2.2.2 k).mp z
    exact zn_01 (hk1.symm.trans this.2.1)
  have yM : ∀ x, x ≠ a → x ≠ a + 2 * k + 34 → x ≠ a + 5 * w + 5 → x ≠ a + 5 * w + 6 → Y x = M x := fun x h0 h1 h2 h3 => by
    rw [eY]; unfold zm_go xu_p; rw [xr_n _ _ h1, xr_n _ _ h1, xr_n _ _ h1, xr_n _ _ h0, zl_rv_o h2 h3]
  have yP : Y (a + 2 * k + 34) = upd (upd (upd (M (a + 2 * k + 34)) 3 (nI 3)) 5 (nI 0)) 10 (nI y) := by
    rw [eY]; unfold zm_go xu_p; rw [xr_s, xr_s, xr_s, xr_n _ _ (by omega), zl_rv_o (by omega) (by omega)]
  have yA : Y a = upd (M a) 5 (M a 5 + zm_h (M (a + 2 * k + 34) 5)) := by
    rw [eY]; unfold zm_go xu_p; rw [xr_n _ _ (by omega), xr_n _ _ (by omega), xr_n _ _ (by omega), xr_s, zl_rv_o (by omega) (by omega)]
  have hlQ : zl_L Y (a + 5 * w + 5) ((Q w).eraseIdx j) := by
    refine ((hold w hw).1.rv (hold w hw).2.2.1 ((hold w hw).q hn) hj).eq ?_ ?_
    · rw [eY]; unfold zm_go xu_p; rw [xr_n _ _ (by omega), xr_n _ _ (by omega), xr_n _ _ (by omega), xr_n _ _ (by omega)]
    · rw [eY]; unfold zm_go xu_p; rw [xr_n _ _ (by omega), xr_n _ _ (by omega), xr_n _ _ (by omega), xr_n _ _ (by omega)]
  have hp : ∀ i, i < 24 → i ≠ k → Y (a + 2 * i + 34) = M (a + 2 * i + 34) := fun i hi hik => yM _ (by omega) (by omega) (by omega) (by omega)
  have he : ∀ i, i < 24 → Y (a + 2 * i + 35) = M (a + 2 * i + 35) := fun i hi => yM _ (by omega) (by omega) (by omega) (by omega)
  have hV : ∀ v, v < 6 → Y (a + 5 * v + 4) = M (a + 5 * v + 4) := fun v hv => yM _ (by omega) (by omega) (by omega) (by omega)
  have hY3 : Y (a + 2 * k + 34) 3 = nI 3 := by rw [yP]; rfl
  refine zi_mv h hkn hw (Nat.le_refl B) ⟨by rw [yA]; rfl, by rw [yA]; rfl, by rw [yA]; rfl⟩ (yM _ (by omega) (by omega) (by omega) (by omega)) hp he (by rw [yP]; rfl) ?_ (fun v hv _ => hV v hv) (by rw [hV w hw]; exact h.2.2.2.2.1 w hw) ?_ ?_ (by rw [hV w hw, yP]; rfl) (by rw [hV w hw, yP]; rfl)
  · obtain ⟨m', t', p1, p2, p3, p4, p5, p6⟩ := h.2.2.2.1 k hkn
    rw [yP]
    refine ⟨m', t', p1, p2, p3, p4, p5, ?_⟩
    rcases p6 with q | q | q
    · exact Or.inr (Or.inr ⟨rfl, q.2.1, rfl, y, hy, rfl⟩)
    · exact absurd (hk1.symm.trans q.1) (by decide)
    · exact absurd (hk1.symm.trans q.1) (by decide)
  · refine zi_lv (Q' := fun v => if v = w then (Q v).eraseIdx j else Q v) (R' := R) hkn hn hold hp he (fun v hv => ?_)
    have no0 : ¬ (Y (a + 2 * k + 34) 3 = nI 0 ∧ zm_wz Y (a + 2 * k + 34) = v) := fun z => absurd (hY3.symm.trans z.1) (by decide)
    have no1 : ¬ (Y (a + 2 * k + 34) 3 = nI 1 ∧ zm_wz Y (a + 2 * k + 34) = v) := fun z => absurd (hY3.symm.trans z.1) (by decide)
    have hR : zl_L Y (a + 5 * v + 7) (R v) := (hold v hv).2.1.eq (by rw [yM _ (by omega) (by omega) (by omega) (by omega)]) (yM _ (by omega) (by omega) (by omega) (by omega))
    by_cases q : v = w
    · subst q
      simp only [↓reduceIte]
      exact ⟨hlQ, hR, zl_erN (hold v hv).2.2.1 j, (hold v hv).2.2.2.1, fun i hi => by rw [zl_er (hold v hv).2.2.1 hj]; exact ⟨fun z => z.1, fun z => ⟨z, hi⟩⟩, fun i _ => by first | exact trivial | exact Iff.rfl, ⟨fun z => absurd rfl ((zl_er (hold v hv).2.2.1 hj k).mp z).2, fun z => absurd z no0⟩, ⟨fun z => absurd z (hkR v hv), fun z => absurd z no1⟩⟩
    · simp only [if_neg q]
      exact ⟨(hold v hv).1.eq (by rw [yM _ (by omega) (by omega) (by omega) (by omega)]) (yM _ (by omega) (by omega) (by omega) (by omega)), hR, (hold v hv).2.2.1, (hold v hv).2.2.2.1, fun i _ => by first | exact trivial | exact Iff.rfl, fun i _ => by first | exact trivial | exact Iff.rfl, ⟨fun z => absurd (hwzM.symm.trans (((hold v hv).2.2.2.2.1 k).mp z).2.2).symm q, fun z => absurd z no0⟩, ⟨fun z => absurd z (hkR v hv), fun z => absurd z no1⟩⟩
  · rw [hV w hw, yP, yA]
    show M (a + 5 * w + 4) 2 + zm_h (nI 0) + (M a 5 + zm_h (M (a + 2 * k + 34) 5)) = _
    rw [zh_0 rfl, show nI 0 = 0 from rfl]
    grind
theorem zi_s1 {a n T G B w L : Nat} {z : xm_T × Nat} (h : zi a z.1 n T G B) (hT : T + 1 ≤ G) (hB : B + 1 < 2 ^ 31) (hw : w < 6) (hL : z.1 (a + 5 * w + 7) 1 = nI L) (hL24 : L ≤ 24) (hz : z.2 < L) :
    zi a (zm_s1 a w z).1 n T G (B + 1) ∧ ∃ L', L' ≤ 24 ∧ (zm_s1 a w z).1 (a + 5 * w + 7) 1 = nI L' ∧ L' + z.2 + 1 = L + (zm_s1 a w z).2 := by
  obtain ⟨Q, R, hold⟩ := h.2.2.2.2.2.1
  have hn := h.n
  have hR := (hold w hw).2.1
  have hLR : (R w).length = L := by have := hR.1; exact zI_inj (by omega) (by omega) (hR.2.1.symm.trans hL)
  have hj : (R w)[z.2]? = some (R w)[z.2] := List.getElem?_eq_getElem (by omega)
  generalize (R w)[z.2] = k at hj
  obtain ⟨hkn, hk1, hkw⟩ := ((hold w hw).2.2.2.2.2 k).mp (List.mem_of_getElem? hj)
  have hk24 : k < 24 := by omega
  have hnum : z.1 (a + 5 * w + 8) z.2 = nI k := hR.2.2 _ _ hj
  unfold zm_s1
  rw [hnum, nI_clamp (by omega), if_pos hk24]
  obtain ⟨M1, e1⟩ : ∃ M1, M1 = xu_p z.1 (a + 2 * k + 34) 6 (z.1 (a + 2 * k + 34) 6 + nI 1) := ⟨_, rfl⟩
  have o1 : ∀ x, x ≠ a + 2 * k + 34 → M1 x = z.1 x := fun x hx => by rw [e1]; exact xr_n _ _ hx
  have s1 : ∀ i, i ≠ 6 → M1 (a + 2 * k + 34) i = z.1 (a + 2 * k + 34) i := fun i hi => by rw [e1]; exact xu_n _ (Or.inr hi)
  have h1 : zi a M1 n T G B := by
    refine zi_mi h (fun x hx => o1 x (hx k hk24)) (fun k' hk' i hi => ?_)
    by_cases q : k' = k
    · subst q; exact s1 i (by omega)
    · rw [o1 _ (by omega)]
  unfold zm_s0
  rw [← e1]
  by_cases q : z.1 (a + 2 * k + 34) 6 + nI 1 < z.1 (a + 1) 0
  · rw [if_pos q]
    exact ⟨h1.mono (Nat.le_refl G) (Nat.le_succ B), L, hL24, by show M1 (a + 5 * w + 7) 1 = _; rw [o1 _ (by omega)]; exact hL, rfl⟩
  · rw [if_neg q, h.2.1 k hk24]
    have hold1 : ∀ v, v < 6 → zi_Lw a n M1 v (Q v) (R v) := fun v hv => by
      obtain ⟨f1, f2, f3, f4, f5, f6⟩ := hold v hv
      have g3 : ∀ i, i < n → M1 (a + 2 * i + 34) 3 = z.1 (a + 2 * i + 34) 3 ∧ zm_wz M1 (a + 2 * i + 34) = zm_wz z.1 (a + 2 * i + 34) := fun i hi => by
        by_cases q : i = k
        · subst q
          exact ⟨s1 3 (by decide), by unfold zm_wz; rw [s1 4 (by decide), o1 _ (by omega)]⟩
        · exact ⟨by rw [o1 _ (by omega)], by unfold zm_wz; rw [o1 _ (by omega), o1 _ (by omega)]⟩
      refine ⟨f1.eq (by rw [o1 _ (by omega)]) (o1 _ (by omega)), f2.eq (by rw [o1 _ (by omega)]) (o1 _ (by omega)), f3, f4, fun i => ?_, fun i => ?_⟩
      · rw [f5]
        exact ⟨fun z => ⟨z.1, by rw [(g3 i z.1).1, (g3 i z.1).2]; exact z.2⟩, fun z => ⟨z.1, by rw [← (g3 i z.1).1, ← (g3 i z.1).2]; exact z.2⟩⟩
      · rw [f6]
        exact ⟨fun z => ⟨z.1, by rw [(g3 i z.1).1, (g3 i z.1).2]; exact z.2⟩, fun z => ⟨z.1, by rw [← (g3 i z.1).1, ← (g3 i z.1).2]; exact z.2⟩⟩
    obtain ⟨r1, r2⟩ := zi_fi h1 hT hB hw hold1 hj
    exact ⟨r1, L - 1, by omega, by rw [hLR] at r2; exact r2, by show L - 1 + z.2 + 1 = L + z.2; omega⟩
/-- the states of serveAt's loop -/
theorem zi_svn {a n T G B w L : Nat} {M : xm_T} (h : zi a M n T G B) (hT : T + 1 ≤ G) (hB : B + 24 < 2 ^ 31) (hw : w < 6) (hL : M (a + 5 * w + 7) 1 = nI L) (hL24 : L ≤ 24) :
    ∀ i, i ≤ L → zi a (zm_it (zm_s1 a w) i (M, 0)).1 n T G (B + i) ∧ ∃ L', L' ≤ 24 ∧ (zm_it (zm_s1 a w) i (M, 0)).1 (a + 5 * w + 7) 1 = nI L' ∧ L' + i = L + (zm_it (zm_s1 a w) i (M, 0)).2 := by
  intro i
  induction i with
  | zero => intro _; exact ⟨h, L, hL24, hL, rfl⟩
  | succ i ih =>
    intro hi
    obtain ⟨g1, L', g2, g3, g4⟩ := ih (by omega)
    obtain ⟨r1, L2, r2, r3, r4⟩ := zi_s1 g1 hT (by omega) hw g3 g2 (by omega)
    exact ⟨r1, L2, r2, r3, by show L2 + (i + 1) = L + (zm_s1 a w (zm_it (zm_s1 a w) i (M, 0))).2; omega⟩
theorem zi_Ls {a n T G B w : Nat} {M : xm_T} (h : zi a M n T G B) (hw : w < 6) : ∃ L, L ≤ 24 ∧ M (a + 5 * w + 7) 1 = nI L := by
  obtain ⟨Q, R, hold⟩ := h.2.2.2.2.2.1
  exact ⟨_, (hold w hw).2.1.1, (hold w hw).2.1.2.1⟩
theorem zi_Lq {a n T G B w : Nat} {M : xm_T} (h : zi a M n T G B) (hw : w < 6) : ∃ L, L ≤ 24 ∧ M (a + 5 * w + 5) 1 = nI L := by
  obtain ⟨Q, R, hold⟩ := h.2.2.2.2.2.1
  exact ⟨_, (hold w hw).1.1, (hold w hw).1.2.1⟩
theorem zi_sv {a n T G B w : Nat} {M : xm_T} (h : zi a M n T G B) (hT : T + 1 ≤ G) (hB : B + 24 < 2 ^ 31) (hw : w < 6) : zi a (zm_sv a w M) n T G (B + 24) := by
  obtain ⟨L, hL24, hL⟩ := zi_Ls h hw
  unfold zm_sv
  rw [hL, nI_clamp (by omega)]
  exact (zi_svn h hT hB hw hL hL24 L (Nat.le_refl L)).1.mono (Nat.le_refl G) (by omega)
/-- the head of a queue -/
theorem zi_hd {a n T G B w : Nat} {M : xm_T} (h : zi a M n T G B) (hw : w < 6) (hc : ¬ M (a + 5 * w + 5) 1 = nI 0) : ∃ Q R : Nat → List Nat, (∀ v, v < 6 → zi_Lw a n M v (Q v) (R v)) ∧ (Q w)[0]? = some (zm_cp a w M) ∧ zm_cp a w M < n ∧ M (a + 5 * w + 6) 0 = nI (zm_cp a w M) := by
  obtain ⟨Q, R, hold⟩ := h.2.2.2.2.2.1
  have hn := h.n
  have hQ := (hold w hw).1
  have hl : 0 < (Q w).length := by
    rcases Nat.eq_zero_or_pos (Q w).length with z | z
    · exact absurd (by rw [hQ.2.1, z]) hc
    · exact z
  have hj : (Q w)[0]? = some (Q w)[0] := List.getElem?_eq_getElem hl
  generalize (Q w)[0] = k at hj
  have hkn := (((hold w hw).2.2.2.2.1 k).mp (List.mem_of_getElem? hj)).1
  have hnum : M (a + 5 * w + 6) 0 = nI k := hQ.2.2 _ _ hj
  have e : zm_cp a w M = k := by unfold zm_cp; rw [hnum, nI_clamp (by omega)]
  exact ⟨Q, R, hold, by rw [e]; exact hj, by rw [e]; exact hkn, by rw [e]; exact hnum⟩
theorem zi_cl {a n T G B w : Nat} (hw : w < 6) : ∀ (i : Nat) {M : xm_T}, zi a M n T G B → zi a (zm_cl a w i M) n T G B := by
  intro i
  induction i with
  | zero => intro M h; exact h
  | succ i ih =>
    intro M h
    show zi a (if zm_c0 a w M then M else zm_cl a w i (zm_c2 a w (zm_cp a w M) M)) n T G B
    by_cases q : zm_c0 a w M
    · rw [if_pos q]; exact h
    · rw [if_neg q]
      obtain ⟨Q, R, hold, hj, -, -⟩ := zi_hd h hw (fun z => q (Or.inl z))
      exact ih (zi_c2 h hw hold hj)
theorem zi_w0 {a n T G B k : Nat} {M : xm_T} (h : zi a M n T G B) (hkn : k < n) : zi a (zm_w0 a k M) n T G B := by
  have hn := h.n
  have o1 : ∀ x, x ≠ a + 2 * k + 34 → zm_w0 a k M x = M x := fun x hx => by unfold zm_w0 xu_p; rw [xr_n _ _ hx, xr_n _ _ hx]
  have s1 : ∀ i, i ≠ 7 → i ≠ 8 → zm_w0 a k M (a + 2 * k + 34) i = M (a + 2 * k + 34) i := fun i h7 h8 => by unfold zm_w0; rw [xu_n _ (Or.inr h8), xu_n _ (Or.inr h7)]
  refine zi_mi h (fun x hx => o1 x (hx k (by omega))) (fun k' hk' i hi => ?_)
  by_cases q : k' = k
  · subst q; exact s1 i (by omega) (by omega)
  · rw [o1 _ (by omega)]
theorem zi_q0 {a n T G B k : Nat} {M : xm_T} (h : zi a M n T G B) (hk : k < 24) (hq : M (a + 2 * k + 34) 3 = nI 0) : k < n := by
  rcases Nat.lt_or_ge k n with z | z
  · exact z
  · exact absurd (hq.symm.trans (h.2.2.1 k z hk).2.1) (by decide)
theorem zi_w1 {a n T G B k : Nat} {M : xm_T} (h : zi a M n T G B) (hT : T + 1 ≤ G) (hk : k < 24) : zi a (zm_w1 a k M) n T G B := by
  unfold zm_w1
  by_cases q : M (a + 2 * k + 34) 3 = 0
  · rw [if_pos q]
    have hkn := zi_q0 h hk q
    have h0 := zi_w0 h hkn
    by_cases q2 : ¬ M (a + 1) 2 = 0 ∧ ¬ M (a + 2 * k + 34) 8 + nI 1 < M (a + 1) 2
    · rw [if_pos q2, h.1.2.2.1, show nI T + nI 1 = nI (T + 1) from nI_add T 1]
      exact zi_sa h0 hkn (by unfold zm_w0; rw [xu_n _ (Or.inr (by decide)), xu_n _ (Or.inr (by decide))]; exact q) hT
    · rw [if_neg q2]; exact h0
  · rw [if_neg q]; exact h
theorem zi_fo {a n T G B : Nat} {f : Nat → xm_T → xm_T} {L d : Nat} (hf : ∀ (k : Nat) {M : xm_T}, k < L → zi a M n T G (B + d * k) → zi a (f k M) n T G (B + d * (k + 1))) : ∀ (i : Nat) {M : xm_T}, i ≤ L → zi a M n T G B → zi a (zm_fo f i M) n T G (B + d * i) := by
  intro i
  induction i with
  | zero => intro M _ h; exact h
  | succ i ih => intro M hi h; exact hf i (by omega) (ih (by omega) h)
theorem zi_cf {a n T G B k : Nat} {M : xm_T} (h : zi a M n T G B) (hk : k < 24) : zi a (zm_cf a k M) n T G B := by
  have o1 : ∀ x, x ≠ a + 2 * k + 34 → zm_cf a k M x = M x := fun x hx => by unfold zm_cf xu_p; rw [xr_n _ _ hx]
  refine zi_mi h (fun x hx => o1 x (hx k hk)) (fun k' hk' i hi => ?_)
  by_cases q : k' = k
  · subst q; unfold zm_cf; rw [xu_n _ (Or.inr (by omega))]
  · rw [o1 _ (by omega)]
theorem zi_v1 {a n T G B w : Nat} {M : xm_T} (h : zi a M n T G B) (hT : T + 1 ≤ G) (hB : B + 24 < 2 ^ 31) (hw : w < 6) : zi a (zm_v1 a w M) n T G (B + 24) := by
  unfold zm_v1
  by_cases q : M (a + 5 * w + 4) 0 = 0
  · rw [if_pos q]; exact h.mono (Nat.le_refl G) (by omega)
  · rw [if_neg q]; exact zi_cl hw _ (zi_sv h hT hB hw)
theorem zi_t1 {a n T B : Nat} {M : xm_T} (h : zi a M n T T B) : zi a (zm_fo (zm_cf a) 24 M) n T (T + 1) B :=
  (zi_fo (d := 0) (fun k _ hk g => by rw [Nat.zero_mul] at g ⊢; exact zi_cf g hk) 24 (Nat.le_refl _) (h.mono (Nat.le_succ T) (Nat.le_refl B))).mono (Nat.le_refl _) (by omega)
theorem zi_t2 {a n T G B : Nat} {M : xm_T} (h : zi a M n T G B) (hT : T + 1 ≤ G) (hB : B + 144 < 2 ^ 31) : ∀ i, i ≤ 6 → zi a (zm_fo (zm_v1 a) i M) n T G (B + 24 * i) := fun i hi =>
  zi_fo (L := 6) (fun k _ hk g => by rw [show B + 24 * (k + 1) = B + 24 * k + 24 by omega]; exact zi_v1 g hT (by omega) hk) i hi h
theorem zi_t3 {a n T G B : Nat} {M : xm_T} (h : zi a M n T G B) (hT : T + 1 ≤ G) : ∀ i, i ≤ 24 → zi a (zm_fo (zm_w1 a) i M) n T G B := fun i hi =>
  (zi_fo (d := 0) (L := 24) (fun k _ hk g => by rw [Nat.zero_mul] at g ⊢; exact zi_w1 g hT hk) i hi h).mono (Nat.le_refl _) (by omega)
theorem zi_ti {a n T B : Nat} {M : xm_T} (h : zi a M n T T B) (hB : B + 144 < 2 ^ 31) : zi a (zm_ti a M) n (T + 1) (T + 1) (B + 144) := by
  have g1 := zi_t1 h
  have g2 : zi a (zm_fo (zm_v1 a) 6 (zm_fo (zm_cf a) 24 M)) n T (T + 1) (B + 24 * 6) := zi_t2 g1 (Nat.le_refl _) hB 6 (Nat.le_refl _)
  have g : zi a (zm_t0 a M) n T (T + 1) (B + 144) := by
    unfold zm_t0 zm_wa
    exact zi_t3 g2 (Nat.le_refl _) 24 (Nat.le_refl _)
  unfold zm_ti
  obtain ⟨N, eN⟩ : ∃ N, N = zm_t0 a M := ⟨_, rfl⟩
  rw [← eN] at g ⊢
  obtain ⟨⟨h1, h2, h3, h4, v, h5, h6⟩, g1, g2, g3, g4, ⟨Q, R, g5⟩, g6, g7, g8⟩ := g
  have o : ∀ x, x ≠ a → xu_p N a 4 (N a 4 + nI 1) x = N x := fun x hx => xr_n _ _ hx
  have o4 : ∀ i, i ≠ 4 → xu_p N a 4 (N a 4 + nI 1) a i = N a i := fun i hi => xu_n _ (Or.inr hi)
  have e4 : xu_p N a 4 (N a 4 + nI 1) a 4 = nI (T + 1) := by rw [xu_s, h3]; exact nI_add T 1
  generalize xu_p N a 4 (N a 4 + nI 1) = Y at o o4 e4
  have wz : ∀ k, zm_wz Y (a + 2 * k + 34) = zm_wz N (a + 2 * k + 34) := fun k => by unfold zm_wz; rw [o _ (by omega), o _ (by omega)]
  refine ⟨⟨h1, by rw [o4 3 (by decide)]; exact h2, e4, Nat.le_refl _, v, h5, by rw [o _ (by omega)]; exact h6⟩, fun k hk => by rw [o _ (by omega)]; exact g1 k hk, fun k hn hk => by rw [o _ (by omega)]; exact g2 k hn hk, fun k hk => by rw [o _ (by omega), o _ (by omega)]; exact g3 k hk, fun w hw => by rw [o _ (by omega)]; exact g4 w hw, ⟨Q, R, fun w hw => ?_⟩, ?_, ?_, ?_⟩
  · obtain ⟨e1, e2, e3, e4, e5, e6⟩ := g5 w hw
    exact ⟨e1.eq (by rw [o _ (by omega)]) (o _ (by omega)), e2.eq (by rw [o _ (by omega)]) (o _ (by omega)), e3, e4, fun k => by rw [e5, wz, o (a + 2 * k + 34) (by omega)], fun k => by rw [e6, wz, o (a + 2 * k + 34) (by omega)]⟩
  · rw [zs_c (f := fun w => N (a + 5 * w + 4) 2) (g := fun w => Y (a + 5 * w + 4) 2) (fun w _ => by rw [o (a + 5 * w + 4) (by omega)]), zs_c (f := fun k => zm_h (N (a + 2 * k + 34) 5)) (g := fun k => zm_h (Y (a + 2 * k + 34) 5)) (fun k _ => by rw [o (a + 2 * k + 34) (by omega)]), o4 5 (by decide), o4 6 (by decide)]
    exact g6
  · rw [zs_c (f := fun w => N (a + 5 * w + 4) 4) (g := fun w => Y (a + 5 * w + 4) 4) (fun w _ => by rw [o (a + 5 * w + 4) (by omega)]), zs_c (f := fun k => N (a + 2 * k + 34) 9) (g := fun k => Y (a + 2 * k + 34) 9) (fun k _ => by rw [o (a + 2 * k + 34) (by omega)])]
    exact g7
  · rw [zs_c (f := fun w => N (a + 5 * w + 4) 3) (g := fun w => Y (a + 5 * w + 4) 3) (fun w _ => by rw [o (a + 5 * w + 4) (by omega)]), zs_c (f := fun k => N (a + 2 * k + 34) 9) (g := fun k => Y (a + 2 * k + 34) 9) (fun k _ => by rw [o (a + 2 * k + 34) (by omega)]), zs_c (f := fun k => N (a + 2 * k + 34) 4) (g := fun k => Y (a + 2 * k + 34) 4) (fun k _ => by rw [o (a + 2 * k + 34) (by omega)])]
    exact g8
theorem zi_tn {a n B : Nat} {M : xm_T} : ∀ (i : Nat) {T : Nat}, zi a M n T T B → B + 144 * i < 2 ^ 31 → zi a (zm_it (zm_ti a) i M) n (T + i) (T + i) (B + 144 * i) := by
  intro i
  induction i with
  | zero => intro T h _; exact h
  | succ i ih =>
    intro T h hB
    rw [show B + 144 * (i + 1) = B + 144 * i + 144 by omega]
    exact zi_ti (ih h (by omega)) (by omega)
end

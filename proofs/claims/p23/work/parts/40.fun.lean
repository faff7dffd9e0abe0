/-! THE CLASS AS FUNCTIONS OF THE MEMORY (a: a ministry's address) -/
def zl_pl (f : Nat → Int32) (n : Int32) : Nat → Nat
  | 0 => 0
  | L + 1 => if zl_pl f n L < L then zl_pl f n L else if f L = n then L else L + 1
/-- one taken out of the line at q, at its place j -/
def zl_rm (q j : Nat) (M : xm_T) : xm_T := xr_up (xu_p M q 1 (M q 1 - nI 1)) (q + 1) (fun i => if j ≤ i ∧ i + 1 < (M q 1).toNatClampNeg then M (q + 1) (i + 1) else M (q + 1) i)
def zl_rv (q : Nat) (n : Int32) (M : xm_T) : xm_T := if zl_pl (M (q + 1)) n (M q 1).toNatClampNeg < (M q 1).toNatClampNeg then zl_rm q (zl_pl (M (q + 1)) n (M q 1).toNatClampNeg) M else M
def zl_ap (q : Nat) (n : Int32) (M : xm_T) : xm_T := xu_p (xu_p M (q + 1) (M q 1).toNatClampNeg n) q 1 (M q 1 + nI 1)
/-- the window that the person at p needs -/
def zm_wz (M : xm_T) (p : Nat) : Nat := (M (p + 1) (M p 4).toNatClampNeg).toNatClampNeg
def zm_h (v : Int32) : Int32 := if v = 0 then nI 0 else nI 1
def zm_jn (a k : Nat) (M : xm_T) : xm_T := if zm_wz M (a + 2 * k + 34) < 6 then zl_ap (a + 5 * zm_wz M (a + 2 * k + 34) + 5) (M (a + 2 * k + 34) 0) (xu_p (xu_p M (a + 2 * k + 34) 3 (nI 0)) (a + 2 * k + 34) 8 (nI 0)) else M
def zm_go (p : Nat) (x y : Int32) (M : xm_T) : xm_T := xu_p (xu_p (xu_p M p 3 x) p 5 (nI 0)) p 10 y
def zm_sa (a k : Nat) (y : Int32) (M : xm_T) : xm_T := if zm_wz M (a + 2 * k + 34) < 6 then zm_go (a + 2 * k + 34) (nI 3) y (xu_p (zl_rv (a + 5 * zm_wz M (a + 2 * k + 34) + 5) (M (a + 2 * k + 34) 0) M) a 5 (M a 5 + zm_h (M (a + 2 * k + 34) 5))) else M
/-- done at the window w -/
def zm_f0 (a w k : Nat) (M : xm_T) : xm_T := zm_go (a + 2 * k + 34) (nI 2) (M a 4 + nI 1) (xu_p (xu_p (xu_p M (a + 5 * w + 4) 3 (M (a + 5 * w + 4) 3 + nI 1)) (a + 2 * k + 34) 4 (M (a + 2 * k + 34) 4 + nI 1)) (a + 5 * w + 4) 2 (M (a + 5 * w + 4) 2 + zm_h (M (a + 2 * k + 34) 5)))
/-- the window gives a half -/
def zm_f1 (a w k : Nat) (M : xm_T) : xm_T := zm_jn a k (xu_p (xu_p (xu_p (xu_p (xu_p M (a + 5 * w + 4) 3 (M (a + 5 * w + 4) 3 + nI 1)) (a + 5 * w + 4) 2 (M (a + 5 * w + 4) 2 + (if M (a + 2 * k + 34) 5 = 0 then (-1) else nI 0))) (a + 2 * k + 34) 5 (nI 1)) (a + 2 * k + 34) 4 (M (a + 2 * k + 34) 4 + nI 1)) (a + 2 * k + 34) 11 (nI 1))
/-- its own half is stamped -/
def zm_f2 (a w k : Nat) (M : xm_T) : xm_T := zm_jn a k (xu_p (xu_p (xu_p M (a + 5 * w + 4) 3 (M (a + 5 * w + 4) 3 + nI 1)) (a + 2 * k + 34) 4 (M (a + 2 * k + 34) 4 + nI 1)) (a + 2 * k + 34) 11 (nI 1))
/-- sent back -/
def zm_f3 (a w k : Nat) (M : xm_T) : xm_T := zm_jn a k (xu_p (xu_p (xu_p (xu_p M (a + 5 * w + 4) 3 (M (a + 5 * w + 4) 3 + nI 1)) (a + 2 * k + 34) 9 (M (a + 2 * k + 34) 9 + nI 1)) (a + 5 * w + 4) 4 (M (a + 5 * w + 4) 4 + nI 1)) (a + 2 * k + 34) 11 (nI 1))
def zm_fi (a w k : Nat) (M : xm_T) : xm_T := if M (a + 2 * k + 34) 4 + nI 1 < M (a + 2 * k + 34) 2 then (if M (a + 5 * w + 4) 2 ≤ 0 then (if M (a + 2 * k + 34) 5 = 0 then zm_f3 a w k M else zm_f2 a w k M) else zm_f1 a w k M) else zm_f0 a w k M
def zm_it {σ : Type} (f : σ → σ) : Nat → σ → σ
  | 0, z => z
  | n + 1, z => f (zm_it f n z)
def zm_fo (f : Nat → xm_T → xm_T) : Nat → xm_T → xm_T
  | 0, M => M
  | n + 1, M => f n (zm_fo f n M)
/-- one turn of serveAt: memory and place -/
def zm_s0 (a w k : Nat) (z : xm_T × Nat) : xm_T × Nat := if z.1 (a + 2 * k + 34) 6 + nI 1 < z.1 (a + 1) 0 then (xu_p z.1 (a + 2 * k + 34) 6 (z.1 (a + 2 * k + 34) 6 + nI 1), z.2 + 1) else (zm_fi a w k (zl_rv (a + 5 * w + 7) (z.1 (a + 2 * k + 34) 0) (xu_p z.1 (a + 2 * k + 34) 6 (z.1 (a + 2 * k + 34) 6 + nI 1))), z.2)
def zm_s1 (a w : Nat) (z : xm_T × Nat) : xm_T × Nat := if (z.1 (a + 5 * w + 8) z.2).toNatClampNeg < 24 then zm_s0 a w (z.1 (a + 5 * w + 8) z.2).toNatClampNeg z else z
def zm_sv (a w : Nat) (M : xm_T) : xm_T := (zm_it (zm_s1 a w) (M (a + 5 * w + 7) 1).toNatClampNeg (M, 0)).1
/-- one turn of callAt -/
def zm_cp (a w : Nat) (M : xm_T) : Nat := (M (a + 5 * w + 6) 0).toNatClampNeg
abbrev zm_c0 (a w : Nat) (M : xm_T) : Prop := M (a + 5 * w + 5) 1 = nI 0 ∨ ¬ zm_cp a w M < 24 ∨ ¬ M (a + 2 * zm_cp a w M + 34) 11 = 0
def zm_c2 (a w k : Nat) (M : xm_T) : xm_T := xu_p (xu_p (zl_ap (a + 5 * w + 7) (M (a + 2 * k + 34) 0) (zl_rv (a + 5 * w + 5) (M (a + 2 * k + 34) 0) M)) (a + 2 * k + 34) 3 (nI 1)) (a + 2 * k + 34) 6 (nI 0)
def zm_cl (a w : Nat) : Nat → xm_T → xm_T
  | 0, M => M
  | n + 1, M => if zm_c0 a w M then M else zm_cl a w n (zm_c2 a w (zm_cp a w M) M)
def zm_ca (a w : Nat) (M : xm_T) : xm_T := zm_cl a w (M (a + 5 * w + 4) 1 - M (a + 5 * w + 7) 1).toNatClampNeg M
/-- one person waits -/
def zm_w0 (a k : Nat) (M : xm_T) : xm_T := xu_p (xu_p M (a + 2 * k + 34) 7 (M (a + 2 * k + 34) 7 + nI 1)) (a + 2 * k + 34) 8 (M (a + 2 * k + 34) 8 + nI 1)
def zm_w1 (a k : Nat) (M : xm_T) : xm_T := if M (a + 2 * k + 34) 3 = 0 then (if ¬ M (a + 1) 2 = 0 ∧ ¬ M (a + 2 * k + 34) 8 + nI 1 < M (a + 1) 2 then zm_sa a k (M a 4 + nI 1) (zm_w0 a k M) else zm_w0 a k M) else M
def zm_wa (a : Nat) (M : xm_T) : xm_T := zm_fo (zm_w1 a) 24 M
def zm_cf (a k : Nat) (M : xm_T) : xm_T := xu_p M (a + 2 * k + 34) 11 (nI 0)
def zm_v1 (a w : Nat) (M : xm_T) : xm_T := if M (a + 5 * w + 4) 0 = 0 then M else zm_ca a w (zm_sv a w M)
def zm_t0 (a : Nat) (M : xm_T) : xm_T := zm_wa a (zm_fo (zm_v1 a) 6 (zm_fo (zm_cf a) 24 M))
def zm_ti (a : Nat) (M : xm_T) : xm_T := xu_p (zm_t0 a M) a 4 (zm_t0 a M a 4 + nI 1)
/-- one person comes, with an errand of m windows -/
def zm_a0 (a k m : Nat) (e : Nat → Int32) (M : xm_T) : xm_T := xu_p (xr_up (xu_p M a 3 (M a 3 + nI 1)) (a + 2 * k + 35) (fun j => if j < m then e j else M (a + 2 * k + 35) j)) (a + 2 * k + 34) 2 (nI m)
def zm_ad (a m : Nat) (e : Nat → Int32) (M : xm_T) : xm_T := if (M a 3).toNatClampNeg < 24 then zm_jn a (M a 3).toNatClampNeg (zm_a0 a (M a 3).toNatClampNeg m e M) else M

/-! SAME BLOCK, SAME OUTCOME -/
def zz_g (a b : Nat) (M N : xm_T) : Prop := ∀ c, c < 82 → M (a + c) = N (b + c)
def zz_o (a : Nat) (M M' : xm_T) : Prop := ∀ x, x < a ∨ a + 82 ≤ x → M' x = M x
def zz_Z (a b : Nat) (M N M' N' : xm_T) : Prop := zz_g a b M' N' ∧ zz_o a M M' ∧ zz_o b N N'
theorem zZ_rf {a b : Nat} {M N : xm_T} (h : zz_g a b M N) : zz_Z a b M N M N := ⟨h, fun _ _ => rfl, fun _ _ => rfl⟩
theorem zz_Z.tr {a b : Nat} {M N M1 N1 M2 N2 : xm_T} (h : zz_Z a b M N M1 N1) (h2 : zz_Z a b M1 N1 M2 N2) : zz_Z a b M N M2 N2 := ⟨h2.1, fun x hx => (h2.2.1 x hx).trans (h.2.1 x hx), fun x hx => (h2.2.2 x hx).trans (h.2.2 x hx)⟩
theorem zz_Z.rd {a b : Nat} {M N M1 N1 : xm_T} (h : zz_Z a b M N M1 N1) (c : Nat) (hc : c < 82) {x y : Nat} (hx : x = a + c) (hy : y = b + c) : M1 x = N1 y := by subst hx; subst hy; exact h.1 c hc
theorem zz_Z.row {a b : Nat} {M N M1 N1 : xm_T} (h : zz_Z a b M N M1 N1) (c : Nat) (hc : c < 82) {x y : Nat} (hx : x = a + c) (hy : y = b + c) {f f' : Nat → Int32} (hf : f = f') : zz_Z a b M N (xr_up M1 x f) (xr_up N1 y f') := by
  subst hx; subst hy; subst hf
  refine ⟨fun d hd => ?_, fun z hz => ?_, fun z hz => ?_⟩
  · by_cases hdc : d = c
    · subst hdc; rw [xr_s, xr_s]
    · rw [xr_n _ _ (by omega), xr_n _ _ (by omega)]; exact h.1 d hd
  · rw [xr_n _ _ (by omega)]; exact h.2.1 z hz
  · rw [xr_n _ _ (by omega)]; exact h.2.2 z hz
theorem zz_Z.up {a b : Nat} {M N M1 N1 : xm_T} (h : zz_Z a b M N M1 N1) (c : Nat) (hc : c < 82) {x y : Nat} (hx : x = a + c) (hy : y = b + c) (i : Nat) {u v : Int32} (hu : u = v) : zz_Z a b M N (xu_p M1 x i u) (xu_p N1 y i v) := by
  unfold xu_p
  exact h.row c hc hx hy (by rw [h.rd c hc hx hy, hu])
theorem zZ_rv {a b : Nat} {M N M1 N1 : xm_T} (h : zz_Z a b M N M1 N1) (c : Nat) (hc : c + 1 < 82) {x y : Nat} (hx : x = a + c) (hy : y = b + c) {n n' : Int32} (hn : n = n') : zz_Z a b M N (zl_rv x n M1) (zl_rv y n' N1) := by
  have e1 := h.rd c (by omega) hx hy
  have e2 := h.rd (c + 1) hc (x := x + 1) (y := y + 1) (by omega) (by omega)
  subst hn
  unfold zl_rv
  rw [e1, e2]
  by_cases q : zl_pl (N1 (y + 1)) n (N1 y 1).toNatClampNeg < (N1 y 1).toNatClampNeg
  · rw [if_pos q, if_pos q]
    unfold zl_rm
    rw [e1, e2]
    exact (h.up c (by omega) hx hy 1 rfl).row (c + 1) hc (by omega) (by omega) rfl
  · rw [if_neg q, if_neg q]
    exact h
theorem zZ_ap {a b : Nat} {M N M1 N1 : xm_T} (h : zz_Z a b M N M1 N1) (c : Nat) (hc : c + 1 < 82) {x y : Nat} (hx : x = a + c) (hy : y = b + c) {n n' : Int32} (hn : n = n') : zz_Z a b M N (zl_ap x n M1) (zl_ap y n' N1) := by
  have e1 := h.rd c (by omega) hx hy
  subst hn
  unfold zl_ap
  rw [e1]
  exact (h.up (c + 1) hc (by omega) (by omega) _ rfl).up c (by omega) hx hy 1 rfl
theorem zZ_go {a b : Nat} {M N M1 N1 : xm_T} (h : zz_Z a b M N M1 N1) (c : Nat) (hc : c < 82) {x y : Nat} (hx : x = a + c) (hy : y = b + c) {u u' v v' : Int32} (hu : u = u') (hv : v = v') : zz_Z a b M N (zm_go x u v M1) (zm_go y u' v' N1) := by
  subst hu; subst hv
  exact ((h.up c hc hx hy 3 rfl).up c hc hx hy 5 rfl).up c hc hx hy 10 rfl
theorem zZ_wz {a b : Nat} {M N M1 N1 : xm_T} (h : zz_Z a b M N M1 N1) {k : Nat} (hk : k < 24) : zm_wz M1 (a + 2 * k + 34) = zm_wz N1 (b + 2 * k + 34) := by
  have e1 := h.rd (2 * k + 34) (by omega) (x := a + 2 * k + 34) (y := b + 2 * k + 34) (by omega) (by omega)
  have e2 := h.rd (2 * k + 35) (by omega) (x := a + 2 * k + 34 + 1) (y := b + 2 * k + 34 + 1) (by omega) (by omega)
  unfold zm_wz
  rw [e1, e2]
theorem zZ_jn {a b : Nat} {M N M1 N1 : xm_T} (h : zz_Z a b M N M1 N1) {k : Nat} (hk : k < 24) : zz_Z a b M N (zm_jn a k M1) (zm_jn b k N1) := by
  have e1 := h.rd (2 * k + 34) (by omega) (x := a + 2 * k + 34) (y := b + 2 * k + 34) (by omega) (by omega)
  unfold zm_jn
  rw [zZ_wz h hk, e1]
  by_cases q : zm_wz N1 (b + 2 * k + 34) < 6
  · rw [if_pos q, if_pos q]
    exact zZ_ap ((h.up (2 * k + 34) (by omega) (by omega) (by omega) 3 rfl).up (2 * k + 34) (by omega) (by omega) (by omega) 8 rfl) (5 * zm_wz N1 (b + 2 * k + 34) + 5) (by omega) (by omega) (by omega) rfl
  · rw [if_neg q, if_neg q]
    exact h
theorem zZ_sa {a b : Nat} {M N M1 N1 : xm_T} (h : zz_Z a b M N M1 N1) {k : Nat} (hk : k < 24) {y y' : Int32} (hy : y = y') : zz_Z a b M N (zm_sa a k y M1) (zm_sa b k y' N1) := by
  have e1 := h.rd (2 * k + 34) (by omega) (x := a + 2 * k + 34) (y := b + 2 * k + 34) (by omega) (by omega)
  have e0 := h.rd 0 (by omega) (x := a) (y := b) (by omega) (by omega)
  unfold zm_sa
  rw [zZ_wz h hk, e1, e0]
  by_cases q : zm_wz N1 (b + 2 * k + 34) < 6
  · rw [if_pos q, if_pos q]
    exact zZ_go ((zZ_rv h (5 * zm_wz N1 (b + 2 * k + 34) + 5) (by omega) (by omega) (by omega) rfl).up 0 (by omega) (by omega) (by omega) 5 rfl) (2 * k + 34) (by omega) (by omega) (by omega) rfl hy
  · rw [if_neg q, if_neg q]
    exact h
theorem zZ_fi {a b : Nat} {M N M1 N1 : xm_T} (h : zz_Z a b M N M1 N1) {w k : Nat} (hw : w < 6) (hk : k < 24) : zz_Z a b M N (zm_fi a w k M1) (zm_fi b w k N1) := by
  have e1 := h.rd (2 * k + 34) (by omega) (x := a + 2 * k + 34) (y := b + 2 * k + 34) (by omega) (by omega)
  have e0 := h.rd 0 (by omega) (x := a) (y := b) (by omega) (by omega)
  have e2 := h.rd (5 * w + 4) (by omega) (x := a + 5 * w + 4) (y := b + 5 * w + 4) (by omega) (by omega)
  have hV : ∀ {P Q : xm_T} (i : Nat) {u v : Int32}, zz_Z a b M N P Q → u = v → zz_Z a b M N (xu_p P (a + 5 * w + 4) i u) (xu_p Q (b + 5 * w + 4) i v) := fun i _ _ g q => g.up (5 * w + 4) (by omega) (by omega) (by omega) i q
  have hP : ∀ {P Q : xm_T} (i : Nat) {u v : Int32}, zz_Z a b M N P Q → u = v → zz_Z a b M N (xu_p P (a + 2 * k + 34) i u) (xu_p Q (b + 2 * k + 34) i v) := fun i _ _ g q => g.up (2 * k + 34) (by omega) (by omega) (by omega) i q
  unfold zm_fi zm_f0 zm_f1 zm_f2 zm_f3
  rw [e1, e0, e2]
  by_cases q : N1 (b + 2 * k + 34) 4 + nI 1 < N1 (b + 2 * k + 34) 2
  · rw [if_pos q, if_pos q]
    by_cases q2 : N1 (b + 5 * w + 4) 2 ≤ 0
    · rw [if_pos q2, if_pos q2]
      by_cases q3 : N1 (b + 2 * k + 34) 5 = 0
      · rw [if_pos q3, if_pos q3]
        exact zZ_jn (hP 11 (hV 4 (hP 9 (hV 3 h rfl) rfl) rfl) rfl) hk
      · rw [if_neg q3, if_neg q3]
        exact zZ_jn (hP 11 (hP 4 (hV 3 h rfl) rfl) rfl) hk
    · rw [if_neg q2, if_neg q2]
      exact zZ_jn (hP 11 (hP 4 (hP 5 (hV 2 (hV 3 h rfl) rfl) rfl) rfl) rfl) hk
  · rw [if_neg q, if_neg q]
    exact zZ_go (hV 2 (hP 4 (hV 3 h rfl) rfl) rfl) (2 * k + 34) (by omega) (by omega) (by omega) rfl rfl
theorem zZ_s1 {a b : Nat} {M N : xm_T} {z y : xm_T × Nat} (h : zz_Z a b M N z.1 y.1) (hzy : z.2 = y.2) {w : Nat} (hw : w < 6) : zz_Z a b M N (zm_s1 a w z).1 (zm_s1 b w y).1 ∧ (zm_s1 a w z).2 = (zm_s1 b w y).2 := by
  have e8 := h.rd (5 * w + 8) (by omega) (x := a + 5 * w + 8) (y := b + 5 * w + 8) (by omega) (by omega)
  unfold zm_s1
  rw [e8, hzy]
  generalize (y.1 (b + 5 * w + 8) y.2).toNatClampNeg = k
  by_cases hk : k < 24
  · rw [if_pos hk, if_pos hk]
    have e1 := h.rd (2 * k + 34) (by omega) (x := a + 2 * k + 34) (y := b + 2 * k + 34) (by omega) (by omega)
    have e2 := h.rd 1 (by omega) (x := a + 1) (y := b + 1) (by omega) (by omega)
    unfold zm_s0
    rw [e1, e2]
    have g := h.up (2 * k + 34) (by omega) (x := a + 2 * k + 34) (y := b + 2 * k + 34) (by omega) (by omega) 6 (u := y.1 (b + 2 * k + 34) 6 + nI 1) rfl
    by_cases q : y.1 (b + 2 * k + 34) 6 + nI 1 < y.1 (b + 1) 0
    · rw [if_pos q, if_pos q]
      exact ⟨g, congrArg (· + 1) hzy⟩
    · rw [if_neg q, if_neg q]
      exact ⟨zZ_fi (zZ_rv g (5 * w + 7) (by omega) (by omega) (by omega) rfl) hw hk, hzy⟩
  · rw [if_neg hk, if_neg hk]
    exact ⟨h, hzy⟩
theorem zZ_sv {a b : Nat} {M N M1 N1 : xm_T} (h : zz_Z a b M N M1 N1) {w : Nat} (hw : w < 6) : zz_Z a b M N (zm_sv a w M1) (zm_sv b w N1) := by
  have e7 := h.rd (5 * w + 7) (by omega) (x := a + 5 * w + 7) (y := b + 5 * w + 7) (by omega) (by omega)
  unfold zm_sv
  rw [e7]
  generalize (N1 (b + 5 * w + 7) 1).toNatClampNeg = n
  have key : ∀ n, zz_Z a b M N (zm_it (zm_s1 a w) n (M1, 0)).1 (zm_it (zm_s1 b w) n (N1, 0)).1 ∧ (zm_it (zm_s1 a w) n (M1, 0)).2 = (zm_it (zm_s1 b w) n (N1, 0)).2 := by
    intro n
    induction n with
    | zero => exact ⟨h, rfl⟩
    | succ n ih => exact zZ_s1 ih.1 ih.2 hw
  exact (key n).1
theorem zZ_cl {a b : Nat} {M N : xm_T} {w : Nat} (hw : w < 6) : ∀ (n : Nat) {M1 N1 : xm_T}, zz_Z a b M N M1 N1 → zz_Z a b M N (zm_cl a w n M1) (zm_cl b w n N1) := by
  intro n
  induction n with
  | zero => intro M1 N1 h; exact h
  | succ n ih =>
    intro M1 N1 h
    have e5 := h.rd (5 * w + 5) (by omega) (x := a + 5 * w + 5) (y := b + 5 * w + 5) (by omega) (by omega)
    have e6 := h.rd (5 * w + 6) (by omega) (x := a + 5 * w + 6) (y := b + 5 * w + 6) (by omega) (by omega)
    have ec : zm_cp a w M1 = zm_cp b w N1 := by unfold zm_cp; rw [e6]
    show zz_Z a b M N (if zm_c0 a w M1 then M1 else zm_cl a w n (zm_c2 a w (zm_cp a w M1) M1)) (if zm_c0 b w N1 then N1 else zm_cl b w n (zm_c2 b w (zm_cp b w N1) N1))
    by_cases hk : zm_cp b w N1 < 24
    · have e1 := h.rd (2 * zm_cp b w N1 + 34) (by omega) (x := a + 2 * zm_cp b w N1 + 34) (y := b + 2 * zm_cp b w N1 + 34) (by omega) (by omega)
      have hc : zm_c0 a w M1 ↔ zm_c0 b w N1 := by unfold zm_c0; rw [e5, ec, e1]
      by_cases q : zm_c0 b w N1
      · rw [if_pos q, if_pos (hc.mpr q)]
        exact h
      · rw [if_neg q, if_neg (fun z => q (hc.mp z)), ec]
        refine ih ?_
        unfold zm_c2
        rw [e1]
        exact ((zZ_ap (zZ_rv h (5 * w + 5) (by omega) (by omega) (by omega) rfl) (5 * w + 7) (by omega) (by omega) (by omega) rfl).up (2 * zm_cp b w N1 + 34) (by omega) (by omega) (by omega) 3 rfl).up (2 * zm_cp b w N1 + 34) (by omega) (by omega) (by omega) 6 rfl
    · rw [if_pos (Or.inr (Or.inl hk)), if_pos (Or.inr (Or.inl (by rw [ec]; exact hk)))]
      exact h
theorem zZ_ca {a b : Nat} {M N M1 N1 : xm_T} (h : zz_Z a b M N M1 N1) {w : Nat} (hw : w < 6) : zz_Z a b M N (zm_ca a w M1) (zm_ca b w N1) := by
  unfold zm_ca
  rw [h.rd (5 * w + 7) (by omega) (x := a + 5 * w + 7) (y := b + 5 * w + 7) (by omega) (by omega), h.rd (5 * w + 4) (by omega) (x := a + 5 * w + 4) (y := b + 5 * w + 4) (by omega) (by omega)]
  exact zZ_cl hw _ h
theorem zZ_fo {a b : Nat} {M N : xm_T} {f g : Nat → xm_T → xm_T} {L : Nat} (hf : ∀ (k : Nat) {M1 N1 : xm_T}, k < L → zz_Z a b M N M1 N1 → zz_Z a b M N (f k M1) (g k N1)) : ∀ (n : Nat) {M1 N1 : xm_T}, n ≤ L → zz_Z a b M N M1 N1 → zz_Z a b M N (zm_fo f n M1) (zm_fo g n N1) := by
  intro n
  induction n with
  | zero => intro M1 N1 _ h; exact h
  | succ n ih => intro M1 N1 hn h; exact hf n (by omega) (ih (by omega) h)
theorem zZ_w1 {a b : Nat} {M N M1 N1 : xm_T} (h : zz_Z a b M N M1 N1) {k : Nat} (hk : k < 24) : zz_Z a b M N (zm_w1 a k M1) (zm_w1 b k N1) := by
  have e1 := h.rd (2 * k + 34) (by omega) (x := a + 2 * k + 34) (y := b + 2 * k + 34) (by omega) (by omega)
  have e0 := h.rd 0 (by omega) (x := a) (y := b) (by omega) (by omega)
  have e2 := h.rd 1 (by omega) (x := a + 1) (y := b + 1) (by omega) (by omega)
  have g : zz_Z a b M N (zm_w0 a k M1) (zm_w0 b k N1) := by
    unfold zm_w0
    rw [e1]
    exact (h.up (2 * k + 34) (by omega) (by omega) (by omega) 7 rfl).up (2 * k + 34) (by omega) (by omega) (by omega) 8 rfl
  unfold zm_w1
  rw [e1, e0, e2]
  by_cases q : N1 (b + 2 * k + 34) 3 = 0
  · rw [if_pos q, if_pos q]
    by_cases q2 : ¬ N1 (b + 1) 2 = 0 ∧ ¬ N1 (b + 2 * k + 34) 8 + nI 1 < N1 (b + 1) 2
    · rw [if_pos q2, if_pos q2]
      exact zZ_sa g hk rfl
    · rw [if_neg q2, if_neg q2]
      exact g
  · rw [if_neg q, if_neg q]
    exact h
theorem zZ_v1 {a b : Nat} {M N M1 N1 : xm_T} (h : zz_Z a b M N M1 N1) {w : Nat} (hw : w < 6) : zz_Z a b M N (zm_v1 a w M1) (zm_v1 b w N1) := by
  have e2 := h.rd (5 * w + 4) (by omega) (x := a + 5 * w + 4) (y := b + 5 * w + 4) (by omega) (by omega)
  unfold zm_v1
  rw [e2]
  by_cases q : N1 (b + 5 * w + 4) 0 = 0
  · rw [if_pos q, if_pos q]; exact h
  · rw [if_neg q, if_neg q]; exact zZ_ca (zZ_sv h hw) hw
theorem zZ_ti {a b : Nat} {M N M1 N1 : xm_T} (h : zz_Z a b M N M1 N1) : zz_Z a b M N (zm_ti a M1) (zm_ti b N1) := by
  have g1 : zz_Z a b M N (zm_fo (zm_cf a) 24 M1) (zm_fo (zm_cf b) 24 N1) := zZ_fo (L := 24) (f := zm_cf a) (g := zm_cf b) (fun k P Q hk g => by unfold zm_cf; exact g.up (2 * k + 34) (by omega) (by omega) (by omega) 11 rfl) 24 (Nat.le_refl _) h
  have g2 : zz_Z a b M N (zm_fo (zm_v1 a) 6 (zm_fo (zm_cf a) 24 M1)) (zm_fo (zm_v1 b) 6 (zm_fo (zm_cf b) 24 N1)) := zZ_fo (L := 6) (f := zm_v1 a) (g := zm_v1 b) (fun k P Q hk g => zZ_v1 g hk) 6 (Nat.le_refl _) g1
  have g : zz_Z a b M N (zm_t0 a M1) (zm_t0 b N1) := by
    unfold zm_t0 zm_wa
    exact zZ_fo (L := 24) (f := zm_w1 a) (g := zm_w1 b) (fun k P Q hk g => zZ_w1 g hk) 24 (Nat.le_refl _) g2
  unfold zm_ti
  rw [g.rd 0 (by omega) (x := a) (y := b) (by omega) (by omega)]
  exact g.up 0 (by omega) (by omega) (by omega) 4 rfl
theorem zZ_tn {a b : Nat} {M N M1 N1 : xm_T} (h : zz_Z a b M N M1 N1) : ∀ n : Nat, zz_Z a b M N (zm_it (zm_ti a) n M1) (zm_it (zm_ti b) n N1) := by
  intro n
  induction n with
  | zero => exact h
  | succ n ih => exact zZ_ti ih
theorem zZ_ad {a b : Nat} {M N M1 N1 : xm_T} (h : zz_Z a b M N M1 N1) {m m' : Nat} {e e' : Nat → Int32} (hm : m = m') (he : ∀ j, j < m → e j = e' j) : zz_Z a b M N (zm_ad a m e M1) (zm_ad b m' e' N1) := by
  subst hm
  have e0 := h.rd 0 (by omega) (x := a) (y := b) (by omega) (by omega)
  unfold zm_ad
  rw [e0]
  generalize (N1 b 3).toNatClampNeg = k
  by_cases hk : k < 24
  · rw [if_pos hk, if_pos hk]
    have e1 := h.rd (2 * k + 35) (by omega) (x := a + 2 * k + 35) (y := b + 2 * k + 35) (by omega) (by omega)
    refine zZ_jn ?_ hk
    unfold zm_a0
    rw [e0]
    refine ((h.up 0 (by omega) (by omega) (by omega) 3 rfl).row (2 * k + 35) (by omega) (by omega) (by omega) ?_).up (2 * k + 34) (by omega) (by omega) (by omega) 2 rfl
    funext j
    by_cases hj : j < m
    · rw [if_pos hj, if_pos hj, he j hj]
    · rw [if_neg hj, if_neg hj, e1]
  · rw [if_neg hk, if_neg hk]
    exact h

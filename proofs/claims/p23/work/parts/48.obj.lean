/-! AN OBJECT OF HALFTICKETS AT b; QUESTIONS AS FUNCTIONS -/
def zp_N (b : Nat) (M : xm_T) : Prop := ∀ k, k < 24 → M (b + 1 + 2 * k + 34) 0 = nI k ∧ M (b + 83 + 2 * k + 34) 0 = nI k ∧ (∀ i, i < 6 → M (b + 165 + 82 * i + 2 + 2 * k + 34) 0 = nI k) ∧ ∀ i, i < 2 → M (b + 82 * i + 660 + 2 * k + 34) 0 = nI k
def zp (b : Nat) (M : xm_T) : Prop := zp_N b M ∧ (∃ n, n ≤ 6 ∧ M (b + 165) 1 = nI n) ∧ ∃ L, L ≤ 60 ∧ M (b + 825) 1 = nI L
theorem zp_H {M : xm_T} {b : Nat} (h : zp_N b M) : xn_H M (b + 165) (b + 1) := fun i hi k hk => by rw [(h k hk).2.2.1 i hi, (h k hk).1]
theorem zp_T {M : xm_T} {b : Nat} (h : zp_N b M) : ∀ k, k < 24 → M (b + 83 + 2 * k + 34) 0 = M (b + 1 + 2 * k + 34) 0 := fun k hk => by rw [(h k hk).2.1, (h k hk).1]
/-- a change: what is now is N's, the history moves on, all else stays (but trials and the pad) -/
def zq (b : Nat) (M M' N : xm_T) : Prop := zp b M' ∧ (∀ x, x < b ∨ b + 827 ≤ x → M' x = M x) ∧ (∀ x, b + 1 ≤ x → x < b + 83 → M' x = N x) ∧ ∀ x, b + 659 ≤ x → x < b + 825 → M' x = M x
/-- the pad stays -/
def zq_d (b : Nat) (M M' : xm_T) : Prop := ∀ x, b + 825 ≤ x → x < b + 827 → M' x = M x
theorem zq_g {b : Nat} {M M1 : xm_T} (hr : xf_rem M M1 (b + 165)) : zz_g (b + 1) (b + 1) M M1 := fun c hc => (hr.2.1 _ (by omega)).symm
theorem zq_mk {b : Nat} {M M1 N M' : xm_T} (hp : zp b M) (hr : xf_rem M M1 (b + 165)) (hZ : zz_Z (b + 1) (b + 1) M M1 N M') (hN : ∀ k, k < 24 → N (b + 1 + 2 * k + 34) 0 = nI k) : zq b M M' N ∧ zq_d b M M' := by
  obtain ⟨hp1, hp2, L, hL, hL2⟩ := hp
  obtain ⟨z1, z2, z3⟩ := hZ
  obtain ⟨⟨n', hn', hn2⟩, r2, r3⟩ := hr
  have o : ∀ x, x < b + 1 ∨ b + 83 ≤ x → M' x = M1 x := fun x hx => z3 x (by omega)
  refine ⟨⟨⟨fun k hk => ⟨?_, ?_, fun i hi => ?_, fun i hi => ?_⟩, ⟨n', hn', by rw [o _ (by omega)]; exact hn2⟩, L, hL, by rw [o _ (by omega), r2 _ (by omega)]; exact hL2⟩, fun x hx => by rw [o _ (by omega), r2 _ (by omega)], fun x h1 h2 => ?_, fun x h1 h2 => by rw [o _ (by omega), r2 _ (by omega)]⟩, fun x h1 h2 => by rw [o _ (by omega), r2 _ (by omega)]⟩
  · have e := z1 (2 * k + 34) (by omega)
    rw [show b + 1 + 2 * k + 34 = b + 1 + (2 * k + 34) by omega, ← e, ← show b + 1 + 2 * k + 34 = b + 1 + (2 * k + 34) by omega]
    exact hN k hk
  · rw [o _ (by omega), r2 _ (by omega)]; exact (hp1 k hk).2.1
  · rw [o _ (by omega), r3 i hi k hk]; exact (hp1 k hk).2.2.1 i hi
  · rw [o _ (by omega), r2 _ (by omega)]; exact (hp1 k hk).2.2.2 i hi
  · have e := z1 (x - (b + 1)) (by omega)
    rw [show b + 1 + (x - (b + 1)) = x by omega] at e
    exact e.symm
/-- a trial: only the trial's cells change -/
def zy (b : Nat) (M M' : xm_T) : Prop := (∀ x, x < b + 83 ∨ b + 165 ≤ x → M' x = M x) ∧ ∀ k, k < 24 → M' (b + 83 + 2 * k + 34) 0 = nI k
theorem zy_rf {b : Nat} {M : xm_T} (h : zp_N b M) : zy b M M := ⟨fun _ _ => rfl, fun k hk => (h k hk).2.1⟩
theorem zy_tr {b : Nat} {M M1 M2 : xm_T} (h : zy b M M1) (h2 : zy b M1 M2) : zy b M M2 := ⟨fun x hx => (h2.1 x hx).trans (h.1 x hx), h2.2⟩
theorem zy.p {b : Nat} {M M' : xm_T} (h : zy b M M') (hp : zp b M) : zp b M' := by
  obtain ⟨p1, ⟨n, p2, p3⟩, L, p4, p5⟩ := hp
  exact ⟨fun k hk => ⟨by rw [h.1 _ (by omega)]; exact (p1 k hk).1, h.2 k hk, fun i hi => by rw [h.1 _ (by omega)]; exact (p1 k hk).2.2.1 i hi, fun i hi => by rw [h.1 _ (by omega)]; exact (p1 k hk).2.2.2 i hi⟩, ⟨n, p2, by rw [h.1 _ (by omega)]; exact p3⟩, L, p4, by rw [h.1 _ (by omega)]; exact p5⟩
theorem zy.g {b : Nat} {M M' : xm_T} (h : zy b M M') : zz_g (b + 1) (b + 1) M M' := fun c hc => (h.1 _ (by omega)).symm
/-- a copy of what is now, to try on -/
def zy_c (b : Nat) (M : xm_T) : xm_T := xf_cp M (b + 83) (b + 1) 82
theorem zy_cg {b : Nat} {M : xm_T} : zz_g (b + 1) (b + 83) M (zy_c b M) := fun c hc => by
  unfold zy_c
  rw [xf_in (by omega)]
  congr 1
  omega
theorem zy_co {b : Nat} {M : xm_T} : ∀ x, x < b + 83 ∨ b + 165 ≤ x → zy_c b M x = M x := fun x hx => by
  unfold zy_c
  exact xf_out (by omega)
/-- steps on the copy -/
theorem zy_st {b n T G B : Nat} {M M' : xm_T} (hz : zi (b + 83) M' n T G B) (ho : zz_o (b + 83) (zy_c b M) M') : zy b M M' := ⟨fun x hx => by rw [ho x (by omega), zy_co x hx], fun k hk => hz.2.1 k hk⟩
theorem zo_tn {a : Nat} {M : xm_T} (n : Nat) : zz_o a M (zm_it (zm_ti a) n M) := (zZ_tn (zZ_rf (fun _ _ => rfl : zz_g a a M M)) n).2.1
theorem zo_ti {a : Nat} {M : xm_T} : zz_o a M (zm_ti a M) := zo_tn 1
theorem zz_g.sym {a b : Nat} {M N : xm_T} (h : zz_g a b M N) : zz_g b a N M := fun c hc => (h c hc).symm
theorem zz_g.tr {a b c : Nat} {M N K : xm_T} (h : zz_g a b M N) (h2 : zz_g b c N K) : zz_g a c M K := fun i hi => (h i hi).trans (h2 i hi)
theorem zz_g.at {a b : Nat} {M N : xm_T} (h : zz_g a b M N) (c : Nat) (hc : c < 82) {x y : Nat} (hx : x = a + c) (hy : y = b + c) : M x = N y := by subst hx; subst hy; exact h c hc
/-! sums -/
def zc_pw (a : Nat) (v : Int32) (M : xm_T) : Int32 := xf_sum (fun k => if M (a + 2 * k + 34) 3 = v then nI 1 else nI 0) 24
def zc_hw (a : Nat) (M : xm_T) : Int32 := xf_sum (fun k => M (a + 5 * k + 4) 2) 6
def zc_hp (a : Nat) (M : xm_T) : Int32 := xf_sum (fun k => if M (a + 2 * k + 34) 5 = 0 then nI 0 else nI 1) 24
def zc_wt (a : Nat) (M : xm_T) : Int32 := xf_sum (fun k => M (a + 2 * k + 34) 7) 24
def zc_bk (a : Nat) (M : xm_T) : Int32 := xf_sum (fun k => M (a + 2 * k + 34) 9) 24
def zc_ow (a : Nat) (M : xm_T) : Int32 := xf_sum (fun k => if M (a + 5 * k + 4) 0 = 0 then nI 0 else nI 1) 6
theorem zc_P {a b k : Nat} {M N : xm_T} (h : zz_g a b M N) (hk : k < 24) : N (b + 2 * k + 34) = M (a + 2 * k + 34) := (h.at (2 * k + 34) (by omega) (by omega) (by omega)).symm
theorem zc_V {a b k : Nat} {M N : xm_T} (h : zz_g a b M N) (hk : k < 6) : N (b + 5 * k + 4) = M (a + 5 * k + 4) := (h.at (5 * k + 4) (by omega) (by omega) (by omega)).symm
theorem zg_pw {a b : Nat} {M N : xm_T} (h : zz_g a b M N) (v : Int32) : zc_pw b v N = zc_pw a v M := zs_c (fun k hk => by rw [zc_P h hk])
theorem zg_hw {a b : Nat} {M N : xm_T} (h : zz_g a b M N) : zc_hw b N = zc_hw a M := zs_c (fun k hk => by rw [zc_V h hk])
theorem zg_hp {a b : Nat} {M N : xm_T} (h : zz_g a b M N) : zc_hp b N = zc_hp a M := zs_c (fun k hk => by rw [zc_P h hk])
theorem zg_wt {a b : Nat} {M N : xm_T} (h : zz_g a b M N) : zc_wt b N = zc_wt a M := zs_c (fun k hk => by rw [zc_P h hk])
theorem zg_sb {a b : Nat} {M N : xm_T} (h : zz_g a b M N) : zc_bk b N = zc_bk a M := zs_c (fun k hk => by rw [zc_P h hk])
theorem zg_ow {a b : Nat} {M N : xm_T} (h : zz_g a b M N) : zc_ow b N = zc_ow a M := zs_c (fun k hk => by rw [zc_V h hk])
/-! the questions -/
def zf_pl (a : Nat) (M : xm_T) (k : Nat) : Int32 := if (M (a + 2 * k + 34) 3 = nI 0 ∨ M (a + 2 * k + 34) 3 = nI 1) ∧ zm_wz M (a + 2 * k + 34) < 6 then zl_pr M (a + 5 * zm_wz M (a + 2 * k + 34) + 5) (M (a + 2 * k + 34) 0) (M (a + 5 * zm_wz M (a + 2 * k + 34) + 5) 1).toNatClampNeg else -6
def zf_pe (a : Nat) (M : xm_T) (k j : Nat) : Int32 := match j with
  | 0 => M (a + 2 * k + 34) 3
  | 1 => zs_at M (a + 2 * k + 34)
  | 2 => zf_pl a M k
  | 3 => zm_h (M (a + 2 * k + 34) 5)
  | 4 => M (a + 2 * k + 34) 4
  | 5 => M (a + 2 * k + 34) 2
  | 6 => M (a + 2 * k + 34) 7
  | 7 => M (a + 2 * k + 34) 9
  | _ => M (a + 2 * k + 34) 10
def zf_wi (a : Nat) (M : xm_T) (w j : Nat) : Int32 := match j with
  | 0 => zm_h (M (a + 5 * w + 4) 0)
  | 1 => M (a + 5 * w + 4) 1
  | 2 => M (a + 5 * w + 4) 2
  | 3 => M (a + 5 * w + 5) 1
  | 4 => M (a + 5 * w + 7) 1
  | 5 => M (a + 5 * w + 4) 3
  | _ => M (a + 5 * w + 4) 4
def zf_co (a : Nat) (M : xm_T) (j : Nat) : Int32 := match j with
  | 0 => M (a + 1) 0
  | 1 => M (a + 1) 1
  | 2 => M (a + 1) 2
  | 3 => M a 4
  | 4 => M a 3
  | 5 => zc_pw a (nI 0) M
  | 6 => zc_pw a (nI 1) M
  | 7 => zc_pw a (nI 2) M
  | 8 => zc_pw a (nI 3) M
  | 9 => zc_hw a M
  | 10 => zc_hp a M
  | 11 => M a 5
  | 12 => M a 6
  | 13 => zc_wt a M
  | _ => zc_bk a M
theorem zg_pe {a b k : Nat} {M N : xm_T} (h : zz_g a b M N) (hk : k < 24) (j : Nat) : zf_pe b N k j = zf_pe a M k j := by
  have e1 := zc_P h hk
  have e2 : N (b + 2 * k + 34 + 1) = M (a + 2 * k + 34 + 1) := (h.at (2 * k + 35) (by omega) (by omega) (by omega)).symm
  have e3 : zm_wz N (b + 2 * k + 34) = zm_wz M (a + 2 * k + 34) := by unfold zm_wz; rw [e1, e2]
  have e4 : zs_at N (b + 2 * k + 34) = zs_at M (a + 2 * k + 34) := by unfold zs_at; rw [e1, e2]
  have e5 : zf_pl b N k = zf_pl a M k := by
    unfold zf_pl
    rw [e1, e3]
    by_cases q : (M (a + 2 * k + 34) 3 = nI 0 ∨ M (a + 2 * k + 34) 3 = nI 1) ∧ zm_wz M (a + 2 * k + 34) < 6
    · rw [if_pos q, if_pos q]
      have e6 : N (b + 5 * zm_wz M (a + 2 * k + 34) + 5) = M (a + 5 * zm_wz M (a + 2 * k + 34) + 5) := (h.at (5 * zm_wz M (a + 2 * k + 34) + 5) (by omega) (by omega) (by omega)).symm
      have e7 : N (b + 5 * zm_wz M (a + 2 * k + 34) + 5 + 1) = M (a + 5 * zm_wz M (a + 2 * k + 34) + 5 + 1) := (h.at (5 * zm_wz M (a + 2 * k + 34) + 6) (by omega) (by omega) (by omega)).symm
      unfold zl_pr
      rw [e6, e7]
    · rw [if_neg q, if_neg q]
  unfold zf_pe
  rw [e1, e4, e5]
theorem zg_wi {a b w : Nat} {M N : xm_T} (h : zz_g a b M N) (hw : w < 6) (j : Nat) : zf_wi b N w j = zf_wi a M w j := by
  have e1 := zc_V h hw
  have e2 : N (b + 5 * w + 5) = M (a + 5 * w + 5) := (h.at (5 * w + 5) (by omega) (by omega) (by omega)).symm
  have e3 : N (b + 5 * w + 7) = M (a + 5 * w + 7) := (h.at (5 * w + 7) (by omega) (by omega) (by omega)).symm
  unfold zf_wi
  rw [e1, e2, e3]
theorem zg_co {a b : Nat} {M N : xm_T} (h : zz_g a b M N) (j : Nat) : zf_co b N j = zf_co a M j := by
  have e0 : N b = M a := (h.at 0 (by omega) rfl rfl).symm
  have e1 : N (b + 1) = M (a + 1) := (h.at 1 (by omega) rfl rfl).symm
  unfold zf_co
  rw [e0, e1, zg_pw h, zg_pw h, zg_pw h, zg_pw h, zg_hw h, zg_hp h, zg_wt h, zg_sb h]
/-- how many are done behind 50 ticks, with one clerk more at the window w (none if w is 6 or more) -/
def zf_c1 (a w : Nat) (M : xm_T) : xm_T := if w < 6 then xu_p M (a + 5 * w + 4) 1 (M (a + 5 * w + 4) 1 + nI 1) else M
def zf_dn (a w : Nat) (M : xm_T) : Int32 := zc_pw a (nI 2) (zm_it (zm_ti a) 50 (zf_c1 a w M))
theorem zZ_c1 {a b : Nat} {M N M1 N1 : xm_T} (h : zz_Z a b M N M1 N1) (w : Nat) : zz_Z a b M N (zf_c1 a w M1) (zf_c1 b w N1) := by
  unfold zf_c1
  by_cases hw : w < 6
  · rw [if_pos hw, if_pos hw, h.rd (5 * w + 4) (by omega) (x := a + 5 * w + 4) (y := b + 5 * w + 4) (by omega) (by omega)]
    exact h.up (5 * w + 4) (by omega) (by omega) (by omega) 1 rfl
  · rw [if_neg hw, if_neg hw]; exact h
theorem zi_c1 {a n T G B w : Nat} {M : xm_T} (h : zi a M n T G B) : zi a (zf_c1 a w M) n T G B := by
  unfold zf_c1
  by_cases hw : w < 6
  · rw [if_pos hw]; exact zi_win h hw (by omega)
  · rw [if_neg hw]; exact h
theorem zg_dn {a b : Nat} {M N : xm_T} (h : zz_g a b M N) (w : Nat) : zf_dn b w N = zf_dn a w M := zg_pw (zZ_tn (zZ_c1 (zZ_rf h) w) 50).1 _
/-- the clerk that had best be moved: best, mostDone behind i windows -/
def zf_bc (a : Nat) (M : xm_T) : Nat → Int32 × Int32
  | 0 => (-6, zf_dn a 6 M)
  | i + 1 => if M (a + 5 * i + 4) 1 < nI 3 ∧ (zf_bc a M i).2 < zf_dn a i M then (nI i, zf_dn a i M) else zf_bc a M i
theorem zg_bc {a b : Nat} {M N : xm_T} (h : zz_g a b M N) : ∀ i, i ≤ 6 → zf_bc b N i = zf_bc a M i
  | 0, _ => by show ((-6 : Int32), zf_dn b 6 N) = (-6, zf_dn a 6 M); rw [zg_dn h]
  | i + 1, hi => by
    show (if N (b + 5 * i + 4) 1 < nI 3 ∧ (zf_bc b N i).2 < zf_dn b i N then (nI i, zf_dn b i N) else zf_bc b N i) = (if M (a + 5 * i + 4) 1 < nI 3 ∧ (zf_bc a M i).2 < zf_dn a i M then (nI i, zf_dn a i M) else zf_bc a M i)
    rw [zg_bc h i (by omega), zg_dn h, zc_V h (show i < 6 by omega)]
/-- the longest queue: window, length behind i windows -/
def zf_lo (a : Nat) (M : xm_T) : Nat → Int32 × Int32
  | 0 => (-6, nI 0)
  | i + 1 => if (zf_lo a M i).2 < M (a + 5 * i + 5) 1 then (nI i, M (a + 5 * i + 5) 1) else zf_lo a M i
theorem zg_lo {a b : Nat} {M N : xm_T} (h : zz_g a b M N) : ∀ i, i ≤ 6 → zf_lo b N i = zf_lo a M i
  | 0, _ => rfl
  | i + 1, hi => by
    show (if (zf_lo b N i).2 < N (b + 5 * i + 5) 1 then (nI i, N (b + 5 * i + 5) 1) else zf_lo b N i) = (if (zf_lo a M i).2 < M (a + 5 * i + 5) 1 then (nI i, M (a + 5 * i + 5) 1) else zf_lo a M i)
    rw [zg_lo h i (by omega), show N (b + 5 * i + 5) = M (a + 5 * i + 5) from (h.at (5 * i + 5) (by omega) (by omega) (by omega)).symm]
/-- what ticks would bring: Z behind them, M ahead of them -/
def zf_if (a : Nat) (Z : xm_T) (a' : Nat) (M : xm_T) (j : Nat) : Int32 := match j with
  | 0 => zc_pw a (nI 2) Z - zc_pw a' (nI 2) M
  | 1 => zc_pw a (nI 3) Z - zc_pw a' (nI 3) M
  | 2 => zc_wt a Z - zc_wt a' M
  | _ => zc_bk a Z - zc_bk a' M
theorem zg_if {a b a' b' : Nat} {M N M1 N1 : xm_T} (h : zz_g a b M N) (h' : zz_g a' b' M1 N1) (j : Nat) : zf_if b N b' N1 j = zf_if a M a' M1 j := by
  unfold zf_if
  rw [zg_pw h, zg_pw h, zg_wt h, zg_sb h, zg_pw h', zg_pw h', zg_wt h', zg_sb h']
/-- when a person is done: f ticks to look at, i looked at -/
def zf_ul (a k : Nat) : Nat → Nat → xm_T → Int32
  | 0, _, _ => -6
  | f + 1, i, M => if zm_ti a M (a + 2 * k + 34) 3 = nI 2 then nI (i + 1) else zf_ul a k f (i + 1) (zm_ti a M)
theorem zg_ul {a b k : Nat} (hk : k < 24) : ∀ (f i : Nat) {M N : xm_T}, zz_g a b M N → zf_ul b k f i N = zf_ul a k f i M
  | 0, _, _, _, _ => rfl
  | f + 1, i, M, N, h => by
    have g := (zZ_ti (zZ_rf h)).1
    show (if zm_ti b N (b + 2 * k + 34) 3 = nI 2 then nI (i + 1) else zf_ul b k f (i + 1) (zm_ti b N)) = (if zm_ti a M (a + 2 * k + 34) 3 = nI 2 then nI (i + 1) else zf_ul a k f (i + 1) (zm_ti a M))
    rw [zc_P g hk, zg_ul hk f (i + 1) g]
/-- all that untilDone answers of a person -/
def zf_ud (a a' : Nat) (M M' : xm_T) (k : Nat) : Int32 := if M (a + 2 * k + 34) 3 = nI 2 then nI 0 else zf_ul a' k 300 0 M'

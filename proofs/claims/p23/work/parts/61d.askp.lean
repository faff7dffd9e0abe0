/-! ASKING BOTH: areAlike; isWell -/
/-- but for the trials, nothing has changed -/
def zA (b c : Nat) (M z : xm_T) : Prop := (∀ x, x < b + 83 ∨ (b + 165 ≤ x ∧ x < c + 83) ∨ c + 165 ≤ x → z x = M x) ∧ zp b z ∧ zp c z
theorem zA_b {b c : Nat} {M z z1 : xm_T} (hbc : b + 827 ≤ c) (h : zA b c M z) (hy : zy b z z1) : zA b c M z1 :=
  ⟨fun x hx => by rw [hy.1 x (by omega)]; exact h.1 x hx, hy.p h.2.1, zp_fr h.2.2 (fun x y1 y2 => hy.1 x (by omega))⟩
theorem zA_c {b c : Nat} {M z z1 : xm_T} (hbc : b + 827 ≤ c) (h : zA b c M z) (hy : zy c z z1) : zA b c M z1 :=
  ⟨fun x hx => by rw [hy.1 x (by omega)]; exact h.1 x hx, zp_fr h.2.1 (fun x y1 y2 => hy.1 x (by omega)), hy.p h.2.2⟩
theorem zA.b {b c : Nat} {M z : xm_T} (hbc : b + 827 ≤ c) (h : zA b c M z) : zz_g (b + 1) (b + 1) M z := zg_of (fun x y1 y2 => h.1 x (by omega))
theorem zA.c {b c : Nat} {M z : xm_T} (hbc : b + 827 ≤ c) (h : zA b c M z) : zz_g (c + 1) (c + 1) M z := zg_of (fun x y1 y2 => h.1 x (by omega))
theorem zA.g {b c : Nat} {M z : xm_T} (hbc : b + 827 ≤ c) (h : zA b c M z) (hg : zz_g (b + 1) (c + 1) M M) : zz_g (b + 1) (c + 1) z z := ((h.b hbc).sym.tr hg).tr (h.c hbc)
/-- the copies to try on are alike -/
theorem zA_y {b c : Nat} {z z1 : xm_T} (hbc : b + 827 ≤ c) (hg : zz_g (b + 1) (c + 1) z z) (hy : zy b z z1) : zz_g (b + 83) (c + 83) (zy_c b z) (zy_c c z1) :=
  (zy_cg.sym.tr hg).tr ((zg_of (a := c + 1) (M := z) (M' := z1) (fun x y1 y2 => hy.1 x (by omega))).tr zy_cg)
theorem zA_z {b c : Nat} {z z1 : xm_T} (hbc : b + 827 ≤ c) (hg : zz_g (b + 1) (c + 1) z z) (hy : zy b z z1) : zz_g (b + 1) (c + 1) z z1 := hg.tr (zg_of (fun x y1 y2 => hy.1 x (by omega)))
theorem zg_ud {a b a' b' k : Nat} {M N M1 N1 : xm_T} (h : zz_g a b M N) (h' : zz_g a' b' M1 N1) (hk : k < 24) : zf_ud b b' N N1 k = zf_ud a a' M M1 k := by
  unfold zf_ud
  rw [zc_P h hk, zg_ul hk 300 0 h']
/-! isWell -/
def zt_x (τ : Nat → Nat) (h : Nat) : Nat → Nat := fun x => if x = h then 104 else τ x
theorem zt_xs {τ : Nat → Nat} {h : Nat} : zt_x τ h h = 104 := if_pos rfl
theorem zt_xn {τ : Nat → Nat} {h x : Nat} (q : ¬ x = h) : zt_x τ h x = τ x := if_neg q
theorem xk_O_ext {τ : Nat → Nat} {A : Nat → Prop} {h : Nat} (O : xk_O τ A) (h0 : τ h = 0) (hA : A h) : xk_O (zt_x τ h) A := by
  have up : ∀ {y κ : Nat}, κ ≠ 0 → τ y = κ → zt_x τ h y = κ := fun {y κ} hκ e => by
    by_cases q : y = h
    · subst q; exact absurd (e.symm.trans h0) hκ
    · rw [zt_xn q]; exact e
  have dn : ∀ {x κ : Nat}, κ ≠ 104 → zt_x τ h x = κ → τ x = κ := fun {x κ} hκ e => by
    by_cases q : x = h
    · subst q; rw [zt_xs] at e; exact absurd e.symm hκ
    · rw [zt_xn q] at e; exact e
  obtain ⟨o1, o2, o3, o4, o5, o6, o7, o8, o9⟩ := O
  refine ⟨fun x hx => ?_, fun x e => ?_, fun x e => ?_, fun x e => ?_, fun x e => ?_, fun x e => ?_, fun x e => ?_, fun x e => ?_, fun x e => ?_⟩
  · by_cases q : x = h
    · subst q; exact hA
    · exact o1 x (by rw [zt_xn q] at hx; exact hx)
  · obtain ⟨q1, q2, q3, q4, q5⟩ := o2 x (dn (by decide) e)
    exact ⟨up (by decide) q1, up (by decide) q2, up (by decide) q3, fun w hw => up (by decide) (q4 w hw), fun k hk => up (by decide) (q5 k hk)⟩
  · obtain ⟨q1, q2⟩ := o3 x (dn (by decide) e)
    exact ⟨up (by decide) q1, up (by decide) q2⟩
  · exact up (by decide) (o4 x (dn (by decide) e))
  · exact up (by decide) (o5 x (dn (by decide) e))
  · obtain ⟨q1, q2⟩ := o6 x (dn (by decide) e)
    exact ⟨up (by decide) q1, fun i hi => up (by decide) (q2 i hi)⟩
  · exact up (by decide) (o7 x (dn (by decide) e))
  · obtain ⟨q1, q2, q3, q4, q5, q6, q7⟩ := o8 x (dn (by decide) e)
    exact ⟨up (by decide) q1, up (by decide) q2, up (by decide) q3, up (by decide) q4, fun i hi => up (by decide) (q5 i hi), up (by decide) q6, up (by decide) q7⟩
  · obtain ⟨q1, q2, q3, q4, q5, q6, q7, q8, q9⟩ := o9 x (dn (by decide) e)
    exact ⟨up (by decide) q1, up (by decide) q2, up (by decide) q3, up (by decide) q4, up (by decide) q5, up (by decide) q6, up (by decide) q7, up (by decide) q8, up (by decide) q9⟩
theorem xw_lt {G : va_G} {g : Nat → ClassId} {τ : Nat → Nat} {M : xm_T} {H : Heap} (hW : xw_D G g τ M H) {x : Nat} (hx : τ x ≠ 0) : x < H.size := ((hW x hx).1).lt
theorem xw_ext {G : va_G} {g : Nat → ClassId} {τ : Nat → Nat} {M : xm_T} {H H1 : Heap} {h : Nat} (hW : xw_D G g τ M H) (hz : H.size = h) (ha : va_at G vwCl (h, .inl (g 0, 4, .inl (fun _ => nI 0))) H1) (ho : ∀ q, q < h → H1[q]? = H[q]?) : xw_D G g (zt_x τ h) (xr_up M h (fun _ => nI 0)) H1 := fun x hx => by
  by_cases q : x = h
  · subst q
    rw [zt_xs, xr_s]
    exact ⟨ha, trivial⟩
  · rw [zt_xn q] at hx
    rw [zt_xn q, xr_n _ _ q]
    obtain ⟨h1, h2⟩ := hW x hx
    exact ⟨h1.kept (ho x (by have := h1.lt; omega)), h2⟩
theorem xw_shr {G : va_G} {g : Nat → ClassId} {τ : Nat → Nat} {M M' : xm_T} {H : Heap} {h : Nat} (hW : xw_D G g (zt_x τ h) M' H) (h0 : τ h = 0) (hM : ∀ x, x ≠ h → M' x = M x) : xw_D G g τ M H := fun x hx => by
  have q : x ≠ h := fun z => hx (by rw [z]; exact h0)
  have e := hW x (by rw [zt_xn q]; exact hx)
  rw [zt_xn q, hM x q] at e
  exact e
/-- sums over those who have come -/
theorem zs_n {f : Nat → Int32} {n : Nat} : ∀ {N : Nat}, n ≤ N → (∀ k, n ≤ k → k < N → f k = nI 0) → xf_sum f n = xf_sum f N
  | 0, h, _ => by rw [show n = 0 by omega]
  | N + 1, h, hf => by
    by_cases q : n = N + 1
    · rw [q]
    · show _ = xf_sum f N + f N
      rw [hf N (by omega) (by omega), ← zs_n (N := N) (by omega) (fun k h1 h2 => hf k h1 (by omega)), show nI 0 = 0 from rfl]
      grind
/-- how many are in each state, of the first k -/
def zw_r (a : Nat) (M : xm_T) (k j : Nat) : Int32 := xf_sum (fun i => if (M (a + 2 * i + 34) 3).toNatClampNeg = j then nI 1 else nI 0) k
theorem zw_r1 {a k t : Nat} {M : xm_T} (h : M (a + 2 * k + 34) 3 = nI t) (ht : t < 4) : upd (zw_r a M k) t (zw_r a M k t + nI 1) = zw_r a M (k + 1) := by
  funext j
  show _ = xf_sum (fun i => if (M (a + 2 * i + 34) 3).toNatClampNeg = j then nI 1 else nI 0) k + (if (M (a + 2 * k + 34) 3).toNatClampNeg = j then nI 1 else nI 0)
  rw [h, nI_clamp (by omega)]
  by_cases q : j = t
  · subst q
    rw [zu_s, if_pos rfl]
    rfl
  · rw [zu_3 _ _ _ _ q, if_neg (Ne.symm q), show nI 0 = 0 from rfl]
    show zw_r a M k j = zw_r a M k j + 0
    grind
theorem zw_rn {a n T G B j : Nat} {M : xm_T} (h : zi a M n T G B) (hj : j < 4) : zw_r a M n j = zc_pw a (nI j) M := by
  have hn := h.n
  unfold zw_r zc_pw
  rw [zs_n (N := 24) hn (fun k h1 h2 => by rw [(h.2.2.1 k h1 h2).2.1, nI_clamp (by omega), if_neg (by omega)])]
  refine zs_c (fun k hk => ?_)
  have hw : ∃ t, t < 5 ∧ M (a + 2 * k + 34) 3 = nI t := by
    by_cases q : k < n
    · obtain ⟨m, t, -, -, -, -, -, p6⟩ := h.2.2.2.1 k q
      rcases p6 with ⟨z | z, -⟩ | ⟨z, -⟩ | ⟨z, -⟩
      · exact ⟨0, by omega, z⟩
      · exact ⟨1, by omega, z⟩
      · exact ⟨2, by omega, z⟩
      · exact ⟨3, by omega, z⟩
    · exact ⟨4, by omega, (h.2.2.1 k (by omega) hk).2.1⟩
  obtain ⟨t, ht, e⟩ := hw
  rw [e, nI_clamp (by omega)]
  by_cases q : t = j
  · rw [if_pos q, if_pos (by rw [q])]
  · rw [if_neg q, if_neg (fun z => q (zI_inj (by omega) (by omega) z))]
theorem zw_hp {a n T G B : Nat} {M : xm_T} (h : zi a M n T G B) : xf_sum (fun k => zm_h (M (a + 2 * k + 34) 5)) n = zc_hp a M := zs_n h.n (fun k h1 h2 => zh_0 (h.2.2.1 k h1 h2).2.2.2.1)
theorem zw_wt {a n T G B : Nat} {M : xm_T} (h : zi a M n T G B) : xf_sum (fun k => M (a + 2 * k + 34) 7) n = zc_wt a M := zs_n h.n (fun k h1 h2 => (h.2.2.1 k h1 h2).2.2.2.2.1)
theorem zw_bk {a n T G B : Nat} {M : xm_T} (h : zi a M n T G B) : xf_sum (fun k => M (a + 2 * k + 34) 9) n = zc_bk a M := zs_n h.n (fun k h1 h2 => (h.2.2.1 k h1 h2).2.2.2.2.2.1)
theorem zw_th {a n T G B : Nat} {M : xm_T} (h : zi a M n T G B) : xf_sum (fun k => M (a + 2 * k + 34) 4) n = xf_sum (fun k => M (a + 2 * k + 34) 4) 24 := zs_n h.n (fun k h1 h2 => (h.2.2.1 k h1 h2).2.2.1)
/-- the place of one who stands in a queue, or is served -/
theorem zw_pl {a n T G B k : Nat} {M : xm_T} {Q R : Nat → List Nat} (h : zi a M n T G B) (hold : ∀ v, v < 6 → zi_Lw a n M v (Q v) (R v)) (hk : k < n) (hq : M (a + 2 * k + 34) 3 = nI 0) : ∃ w j : Nat, w < 6 ∧ zs_at M (a + 2 * k + 34) = nI w ∧ (Q w)[j]? = some k ∧ zf_pl a M k = nI j ∧ j < 24 := by
  have hn := h.n
  obtain ⟨t, m, w, hat⟩ := (h.2.2.2.1 k hk).at (Or.inl hq)
  have hw := hat.2.2.2.2.2
  obtain ⟨j, hj⟩ := List.getElem?_of_mem (((hold w hw).2.2.2.2.1 k).mpr ⟨hk, hq, zk_wz hat⟩)
  have hjl := (List.getElem?_eq_some_iff.mp hj).1
  have hl := (hold w hw).1
  refine ⟨w, j, hw, zs_in hat (Or.inl hq), hj, ?_, by have := hl.1; omega⟩
  unfold zf_pl
  rw [zk_wz hat, if_pos ⟨Or.inl hq, hw⟩, h.2.1 k (by omega), hl.2.1, nI_clamp (by have := hl.1; omega)]
  unfold zl_pr
  rw [hl.pl (hold w hw).2.2.1 ((hold w hw).q hn) hj, if_pos hjl]
theorem zw_pl1 {a n T G B k : Nat} {M : xm_T} (h : zi a M n T G B) (hk : k < n) (hq : ¬ M (a + 2 * k + 34) 3 = nI 0) : zf_pl a M k = -6 := by
  have hn := h.n
  obtain ⟨Q, R, hold⟩ := h.2.2.2.2.2.1
  unfold zf_pl
  by_cases q : (M (a + 2 * k + 34) 3 = nI 0 ∨ M (a + 2 * k + 34) 3 = nI 1) ∧ zm_wz M (a + 2 * k + 34) < 6
  · rw [if_pos q]
    have hw := q.2
    have hl := (hold _ hw).1
    rw [h.2.1 k (by omega), hl.2.1, nI_clamp (by have := hl.1; omega)]
    unfold zl_pr
    rw [hl.pl0 ((hold _ hw).q hn) (by omega) (fun z => hq (((hold _ hw).2.2.2.2.1 k).mp z).2.1), if_neg (Nat.lt_irrefl _)]
  · rw [if_neg q]
/-! the places of a queue, as bits -/
def zw_b (Q : List Nat) : Nat → Nat
  | 0 => 0
  | k + 1 => if k ∈ Q then zw_b Q k ||| 2 ^ (Q.idxOf k) else zw_b Q k
def zw_c (Q : List Nat) : Nat → Nat
  | 0 => 0
  | k + 1 => if k ∈ Q then zw_c Q k + 1 else zw_c Q k
theorem zw_idx {Q : List Nat} (hN : Q.Nodup) {j k : Nat} (hj : Q[j]? = some k) : Q.idxOf k = j := by
  have hm := List.mem_of_getElem? hj
  have hl := List.idxOf_lt_length_of_mem hm
  have e : Q[Q.idxOf k]? = some k := by rw [List.getElem?_eq_getElem hl, List.getElem_idxOf hl]
  exact zl_nd hN e hj
theorem zw_bt {Q : List Nat} (i : Nat) : ∀ n, (zw_b Q n).testBit i = true ↔ ∃ k, k < n ∧ k ∈ Q ∧ Q.idxOf k = i
  | 0 => by
    show (0 : Nat).testBit i = true ↔ _
    rw [Nat.zero_testBit]
    exact ⟨fun z => (by cases z), fun ⟨k, hk, _⟩ => absurd hk (Nat.not_lt_zero k)⟩
  | n + 1 => by
    show (if n ∈ Q then zw_b Q n ||| 2 ^ (Q.idxOf n) else zw_b Q n).testBit i = true ↔ _
    by_cases q : n ∈ Q
    · rw [if_pos q, Nat.testBit_or, Bool.or_eq_true, zw_bt i n, Nat.testBit_two_pow, decide_eq_true_iff]
      constructor
      · rintro (⟨k, h1, h2⟩ | h)
        · exact ⟨k, by omega, h2⟩
        · exact ⟨n, by omega, q, h⟩
      · rintro ⟨k, h1, h2, h3⟩
        by_cases e : k = n
        · subst e; exact Or.inr h3
        · exact Or.inl ⟨k, by omega, h2, h3⟩
    · rw [if_neg q, zw_bt i n]
      constructor
      · rintro ⟨k, h1, h2⟩; exact ⟨k, by omega, h2⟩
      · rintro ⟨k, h1, h2, h3⟩
        by_cases e : k = n
        · subst e; exact absurd h2 q
        · exact ⟨k, by omega, h2, h3⟩
theorem zw_bl {Q : List Nat} {n : Nat} (hN : Q.Nodup) (hQ : ∀ k, k ∈ Q → k < n) : zw_b Q n = 2 ^ Q.length - 1 := by
  apply Nat.eq_of_testBit_eq
  intro i
  rw [Nat.testBit_two_pow_sub_one, Bool.eq_iff_iff, zw_bt, decide_eq_true_iff]
  constructor
  · rintro ⟨k, h1, h2, h3⟩
    rw [← h3]
    exact List.idxOf_lt_length_of_mem h2
  · intro hi
    have e : Q[i]? = some Q[i] := List.getElem?_eq_getElem hi
    exact ⟨Q[i], hQ _ (List.mem_of_getElem? e), List.mem_of_getElem? e, zw_idx hN e⟩
theorem zw_cf (Q : List Nat) : ∀ n, zw_c Q n = ((List.range n).filter (fun k => decide (k ∈ Q))).length
  | 0 => rfl
  | n + 1 => by
    rw [List.range_succ, List.filter_append, List.length_append, ← zw_cf Q n]
    show (if n ∈ Q then zw_c Q n + 1 else zw_c Q n) = _
    by_cases q : n ∈ Q
    · rw [if_pos q, List.filter_cons_of_pos (by simpa using q)]; rfl
    · rw [if_neg q, List.filter_cons_of_neg (by simpa using q)]; rfl
theorem zw_cl {Q : List Nat} {n : Nat} (hN : Q.Nodup) (hQ : ∀ k, k ∈ Q → k < n) : zw_c Q n = Q.length := by
  rw [zw_cf]
  apply Nat.le_antisymm
  · exact zl_le (List.Pairwise.filter _ List.nodup_range) (fun x hx => of_decide_eq_true (List.mem_filter.mp hx).2)
  · exact zl_le hN (fun x hx => List.mem_filter.mpr ⟨List.mem_range.mpr (hQ x hx), decide_eq_true hx⟩)
theorem zw_b24 {Q : List Nat} (hl : Q.length ≤ 24) : ∀ n, zw_b Q n < 2 ^ 24
  | 0 => Nat.lt_of_lt_of_le (show (0 : Nat) < 1 by omega) (Nat.le_of_ble_eq_true rfl)
  | n + 1 => by
    show (if n ∈ Q then zw_b Q n ||| 2 ^ (Q.idxOf n) else zw_b Q n) < 2 ^ 24
    by_cases q : n ∈ Q
    · rw [if_pos q]
      exact Nat.or_lt_two_pow (zw_b24 hl n) (Nat.pow_lt_pow_right (by omega) (by have := List.idxOf_lt_length_of_mem q; omega))
    · rw [if_neg q]; exact zw_b24 hl n
theorem zw_sh : ∀ j, j < 25 → nI 1 <<< (nI j &&& 31) = nI (2 ^ j) := by decide +kernel
theorem zw_or (x y : Nat) : nI x ||| nI y = nI (x ||| y) := by
  apply Int32.toBitVec_inj.mp
  show BitVec.ofNat 32 x ||| BitVec.ofNat 32 y = BitVec.ofNat 32 (x ||| y)
  exact (BitVec.ofNat_or).symm

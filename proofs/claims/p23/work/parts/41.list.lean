/-! LINES AS LISTS; SUMS -/
def zl_L (M : xm_T) (q : Nat) (w : List Nat) : Prop := w.length ≤ 24 ∧ M q 1 = nI w.length ∧ ∀ j k, w[j]? = some k → M (q + 1) j = nI k
theorem zI_inj {a b : Nat} (ha : a < 2 ^ 31) (hb : b < 2 ^ 31) (h : nI a = nI b) : a = b := by
  have h2 := congrArg Int32.toNatClampNeg h
  rwa [nI_clamp ha, nI_clamp hb] at h2
theorem zl_nd {w : List Nat} (hN : w.Nodup) {i j k : Nat} (hi : w[i]? = some k) (hj : w[j]? = some k) : i = j := by
  obtain ⟨g1, e1⟩ := List.getElem?_eq_some_iff.mp hi
  obtain ⟨g2, e2⟩ := List.getElem?_eq_some_iff.mp hj
  have hpw := List.pairwise_iff_getElem.mp hN
  rcases Nat.lt_trichotomy i j with q1 | q1 | q1
  · exact absurd (e1.trans e2.symm) (hpw i j g1 g2 q1)
  · exact q1
  · exact absurd (e2.trans e1.symm) (hpw j i g2 g1 q1)
theorem zl_le : ∀ {l l' : List Nat}, l.Nodup → (∀ x, x ∈ l → x ∈ l') → l.length ≤ l'.length
  | [], _, _, _ => Nat.zero_le _
  | x :: l, l', hN, hs => by
    have hx : x ∈ l' := hs x (List.mem_cons.mpr (Or.inl rfl))
    have hN2 := List.nodup_cons.mp hN
    have h1 : l.length ≤ (l'.erase x).length := zl_le hN2.2 (fun y hy => (List.mem_erase_of_ne (show y ≠ x from fun z => hN2.1 (by rw [← z]; exact hy))).mpr (hs y (List.mem_cons.mpr (Or.inr hy))))
    have h2 := List.length_erase_of_mem hx
    have h3 : 0 < l'.length := List.length_pos_of_mem hx
    rw [List.length_cons]
    omega
theorem zl_le24 {w : List Nat} {n : Nat} (hN : w.Nodup) (h : ∀ k, k ∈ w → k < n) : w.length ≤ n := by
  have h1 := zl_le hN (l' := List.range n) (fun x hx => List.mem_range.mpr (h x hx))
  rwa [List.length_range] at h1
theorem zl_L.eq {M M' : xm_T} {q q' : Nat} {w : List Nat} (h : zl_L M q w) (h1 : M' q' 1 = M q 1) (h2 : M' (q' + 1) = M (q + 1)) : zl_L M' q' w := ⟨h.1, h1.trans h.2.1, fun j k hj => by rw [h2]; exact h.2.2 j k hj⟩
theorem zl_L.ap {M : xm_T} {q : Nat} {w : List Nat} (h : zl_L M q w) (hlt : w.length < 24) (n : Nat) : zl_L (zl_ap q (nI n) M) q (w ++ [n]) := by
  refine ⟨by rw [List.length_append]; exact hlt, ?_, fun j k hj => ?_⟩
  · unfold zl_ap
    rw [xu_s, h.2.1, List.length_append]
    exact nI_add _ _
  · unfold zl_ap
    rw [xu_n _ (Or.inl (by omega)), h.2.1, nI_clamp (by omega)]
    by_cases hjw : j = w.length
    · subst hjw
      rw [xu_s]
      rw [List.getElem?_append_right (Nat.le_refl _), Nat.sub_self] at hj
      exact congrArg nI (Option.some.inj hj)
    · rw [xu_n _ (Or.inr hjw)]
      have hl := (List.getElem?_eq_some_iff.mp hj).1
      rw [List.length_append] at hl
      have hl2 : j < w.length := by
        have : ([n] : List Nat).length = 1 := rfl
        omega
      rw [List.getElem?_append_left hl2] at hj
      exact h.2.2 j k hj
theorem zl_ap_o {M : xm_T} {q x : Nat} {n : Int32} (h1 : x ≠ q) (h2 : x ≠ q + 1) : zl_ap q n M x = M x := by
  unfold zl_ap xu_p
  rw [xr_n _ _ h1, xr_n _ _ h2]
theorem zl_pl_none {f : Nat → Int32} {n : Int32} : ∀ {L : Nat}, (∀ i, i < L → f i ≠ n) → zl_pl f n L = L
  | 0, _ => rfl
  | L + 1, h => by
    show (if zl_pl f n L < L then zl_pl f n L else if f L = n then L else L + 1) = L + 1
    rw [zl_pl_none (fun i hi => h i (by omega)), if_neg (Nat.lt_irrefl L), if_neg (h L (by omega))]
theorem zl_pl_some {f : Nat → Int32} {n : Int32} : ∀ {L j : Nat}, j < L → f j = n → (∀ i, i < j → f i ≠ n) → zl_pl f n L = j
  | 0, _, h, _, _ => absurd h (Nat.not_lt_zero _)
  | L + 1, j, h, hj, hi => by
    show (if zl_pl f n L < L then zl_pl f n L else if f L = n then L else L + 1) = j
    by_cases hjL : j < L
    · rw [zl_pl_some hjL hj hi, if_pos hjL]
    · have e : j = L := by omega
      subst e
      rw [zl_pl_none hi, if_neg (Nat.lt_irrefl j), if_pos hj]
/-- the place of one who stands there -/
theorem zl_L.pl {M : xm_T} {q : Nat} {w : List Nat} (h : zl_L M q w) (hN : w.Nodup) (hb : ∀ x, x ∈ w → x < 24) {j k : Nat} (hj : w[j]? = some k) : zl_pl (M (q + 1)) (nI k) w.length = j := by
  refine zl_pl_some (List.getElem?_eq_some_iff.mp hj).1 (h.2.2 j k hj) (fun i hi z => ?_)
  have hil : i < w.length := by have := (List.getElem?_eq_some_iff.mp hj).1; omega
  have e := List.getElem?_eq_getElem hil
  have m1 := hb _ (List.mem_of_getElem? e)
  have m2 := hb _ (List.mem_of_getElem? hj)
  have e2 := zI_inj (by omega) (by omega) ((h.2.2 i _ e).symm.trans z)
  rw [e2] at e
  have := zl_nd hN e hj
  omega
theorem zl_L.pl0 {M : xm_T} {q : Nat} {w : List Nat} (h : zl_L M q w) (hb : ∀ x, x ∈ w → x < 24) {k : Nat} (hk : k < 24) (hn : k ∉ w) : zl_pl (M (q + 1)) (nI k) w.length = w.length := by
  refine zl_pl_none (fun i hi z => hn ?_)
  have e := List.getElem?_eq_getElem hi
  have m1 := hb _ (List.mem_of_getElem? e)
  have e2 := zI_inj (by omega) (by omega) ((h.2.2 i _ e).symm.trans z)
  rw [← e2]
  exact List.mem_of_getElem? e
theorem zl_L.rv {M : xm_T} {q : Nat} {w : List Nat} (h : zl_L M q w) (hN : w.Nodup) (hb : ∀ x, x ∈ w → x < 24) {j k : Nat} (hj : w[j]? = some k) : zl_L (zl_rv q (nI k) M) q (w.eraseIdx j) := by
  have hjl := (List.getElem?_eq_some_iff.mp hj).1
  have hl : (M q 1).toNatClampNeg = w.length := by rw [h.2.1, nI_clamp (by have := h.1; omega)]
  have hle : (w.eraseIdx j).length = w.length - 1 := List.length_eraseIdx_of_lt hjl
  unfold zl_rv
  rw [hl, h.pl hN hb hj, if_pos hjl]
  unfold zl_rm
  refine ⟨by have := h.1; omega, ?_, fun i k' hi => ?_⟩
  · rw [xr_n _ _ (by omega), xu_s, h.2.1, hle]
    have e : w.length = (w.length - 1) + 1 := by omega
    rw [e]
    exact nI_pred _
  · rw [xr_s, hl]
    have hil := (List.getElem?_eq_some_iff.mp hi).1
    rw [List.getElem?_eraseIdx] at hi
    by_cases hij : i < j
    · rw [if_pos hij] at hi
      rw [if_neg (by omega)]
      exact h.2.2 i k' hi
    · rw [if_neg hij] at hi
      rw [if_pos (by omega)]
      exact h.2.2 (i + 1) k' hi
theorem zl_rv_o {M : xm_T} {q x : Nat} {n : Int32} (h1 : x ≠ q) (h2 : x ≠ q + 1) : zl_rv q n M x = M x := by
  unfold zl_rv
  by_cases h : zl_pl (M (q + 1)) n (M q 1).toNatClampNeg < (M q 1).toNatClampNeg
  · rw [if_pos h]
    unfold zl_rm xu_p
    rw [xr_n _ _ h2, xr_n _ _ h1]
  · rw [if_neg h]
theorem zl_er {w : List Nat} (hN : w.Nodup) {j k : Nat} (hj : w[j]? = some k) (x : Nat) : x ∈ w.eraseIdx j ↔ x ∈ w ∧ x ≠ k := by
  rw [List.mem_eraseIdx_iff_getElem?]
  constructor
  · rintro ⟨i, hi, e⟩
    refine ⟨List.mem_of_getElem? e, fun z => hi ?_⟩
    rw [z] at e
    exact zl_nd hN e hj
  · rintro ⟨h1, h2⟩
    obtain ⟨i, e⟩ := List.getElem?_of_mem h1
    refine ⟨i, fun z => h2 ?_, e⟩
    rw [z, hj] at e
    exact (Option.some.inj e).symm
theorem zl_erN {w : List Nat} (hN : w.Nodup) (j : Nat) : (w.eraseIdx j).Nodup := List.Pairwise.eraseIdx j hN
theorem zl_apN {w : List Nat} (hN : w.Nodup) {k : Nat} (h : k ∉ w) : (w ++ [k]).Nodup := by
  rw [List.nodup_append]
  refine ⟨hN, List.nodup_cons.mpr ⟨List.not_mem_nil, List.nodup_nil⟩, fun x hx y hy e => h ?_⟩
  rw [List.mem_singleton] at hy
  rw [← hy, ← e]
  exact hx
theorem zs_c {f g : Nat → Int32} : ∀ {n : Nat}, (∀ k, k < n → g k = f k) → xf_sum g n = xf_sum f n
  | 0, _ => rfl
  | n + 1, h => by
    show xf_sum g n + g n = xf_sum f n + f n
    rw [zs_c (fun k hk => h k (by omega)), h n (by omega)]
theorem zs_up {f g : Nat → Int32} {k : Nat} : ∀ {n : Nat}, k < n → (∀ j, j < n → j ≠ k → g j = f j) → xf_sum g n = xf_sum f n + (g k - f k)
  | 0, h, _ => absurd h (Nat.not_lt_zero _)
  | n + 1, h, hj => by
    show xf_sum g n + g n = xf_sum f n + f n + (g k - f k)
    by_cases hkn : k = n
    · subst hkn
      rw [zs_c (f := f) (g := g) (fun j hjk => hj j (by omega) (by omega))]
      grind
    · rw [zs_up (by omega) (fun j hj1 hj2 => hj j (by omega) hj2), hj n (by omega) (by omega)]
      grind

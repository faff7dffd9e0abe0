/-! THE WORLDS OF THE LAW: a new HalfTickets at h (827 cells), a new model at r (10 cells): kinds and numbers by the offset -/
def xz_W (o : Nat) : Nat := if o = 0 then 5 else if o = 1 then 6 else if o = 2 then 124 else if o = 3 then 6 else 124
def xz_P (o : Nat) : Nat := if o = 0 then 8 else 108
def xz_M (o : Nat) : Nat := if o = 0 then 1 else if o = 1 then 103 else if o = 2 then 3 else if o = 3 then 4 else if o < 34 then xz_W ((o - 4) % 5) else xz_P ((o - 34) % 2)
def xz_H (o : Nat) : Nat := if o = 0 then 10 else if o = 1 then 11 else xz_M ((o - 2) % 82)
def xz_B (o : Nat) : Nat := if o = 0 then 16 else if o < 83 then xz_M (o - 1) else if o < 165 then xz_M (o - 83) else if o < 659 then xz_H (o - 165) else if o = 659 then 12 else if o < 824 then xz_M ((o - 660) % 82) else if o = 824 then 13 else if o = 825 then 14 else 15
def xz_R (o : Nat) : Nat := if o = 0 then 20 else if o = 1 then 426 else if o = 2 then 426 else if o = 3 then 2056 else if o = 4 then 752 else if o = 5 then 102 else if o = 6 then 124 else if o = 7 then 160 else if o = 8 then 130 else if o = 9 then 130 else 0
def xz_A (o : Nat) : Nat := if o < 827 then xz_B o else 0
def xz_t (h x : Nat) : Nat := if x < h then 0 else xz_A (x - h)
def xy_t (r x : Nat) : Nat := if x < r then 0 else xz_R (x - r)
def xd_W (o j : Nat) : Int32 := if o = 0 then (if j < 2 then nI 1 else if j = 2 then nI 8 else nI 0) else nI 0
def xd_P (k o j : Nat) : Int32 := if o = 0 then (if j = 0 then nI k else if j = 3 then nI 4 else if j = 10 then -6 else nI 0) else nI 0
def xd_M (o j : Nat) : Int32 := if o = 1 then xs_0 j else if o < 4 then nI 0 else if o < 34 then xd_W ((o - 4) % 5) j else xd_P ((o - 34) / 2) ((o - 34) % 2) j
def xd_H (o j : Nat) : Int32 := if o < 2 then nI 0 else xd_M ((o - 2) % 82) j
def xd_B (o j : Nat) : Int32 := if o = 0 then nI 0 else if o < 83 then xd_M (o - 1) j else if o < 165 then xd_M (o - 83) j else if o < 659 then xd_H (o - 165) j else if o = 659 then nI 0 else if o < 824 then xd_M ((o - 660) % 82) j else nI 0
def xd_R (o j : Nat) : Int32 := if o = 1 then xm_al j else nI 0
def xd_m (h : Nat) : xm_T := fun x j => xd_B (x - h) j
def xy_m (r : Nat) : xm_T := fun x j => xd_R (x - r) j
/-- the cells x .. x + n - 1 are as t and d say by the offset -/
def xz_S (G : va_G) (g : Nat → ClassId) (H : Heap) (x n : Nat) (t : Nat → Nat) (d : Nat → Nat → Int32) : Prop := ∀ o, o < n → va_at G vwCl (x + o, xw_cell g (t o) (d o) (x + o)) H ∧ xw_ok (t o) (d o)
theorem xz_to {G : va_G} {g : Nat → ClassId} {H : Heap} {x x' t t' : Nat} {d d' : Nat → Int32} (h : va_at G vwCl (x', xw_cell g t' d' x') H ∧ xw_ok t' d') (hx : x = x') (ht : t = t') (hd : d = d') : va_at G vwCl (x, xw_cell g t d x) H ∧ xw_ok t d := by
  subst hx
  subst ht
  subst hd
  exact h
theorem xz_Wk {G : va_G} {g : Nat → ClassId} {H : Heap} {x : Nat} (h : xk_W G g x (nI 8) H) : xz_S G g H x 5 xz_W xd_W := fun o ho => by
  rcases (show o = 0 ∨ o = 1 ∨ o = 2 ∨ o = 3 ∨ o = 4 by omega) with rfl | rfl | rfl | rfl | rfl
  · exact ⟨h.1, xb_1⟩
  · exact ⟨h.2.1.1, trivial⟩
  · exact ⟨h.2.1.2, trivial⟩
  · exact ⟨h.2.2.1, trivial⟩
  · exact ⟨h.2.2.2, trivial⟩
theorem xz_Pk {G : va_G} {g : Nat → ClassId} {H : Heap} {x k : Nat} (h : xk_P G g x (nI k) H) : xz_S G g H x 2 xz_P (xd_P k) := fun o ho => by
  rcases (show o = 0 ∨ o = 1 by omega) with rfl | rfl
  · exact ⟨h.1, xb_0, xb_0⟩
  · exact ⟨h.2, trivial⟩
theorem xz_Mw {w q : Nat} (hw : w < 6) (hq : q < 5) : xz_M (4 + 5 * w + q) = xz_W q := by
  unfold xz_M
  rw [if_neg (by omega), if_neg (by omega), if_neg (by omega), if_neg (by omega), if_pos (by omega), show (4 + 5 * w + q - 4) % 5 = q by omega]
theorem xd_Mw {w q : Nat} (hw : w < 6) (hq : q < 5) : xd_M (4 + 5 * w + q) = xd_W q := by
  funext j
  unfold xd_M
  rw [if_neg (by omega), if_neg (by omega), if_pos (by omega), show (4 + 5 * w + q - 4) % 5 = q by omega]
theorem xz_Mp {k q : Nat} (hq : q < 2) : xz_M (34 + 2 * k + q) = xz_P q := by
  unfold xz_M
  rw [if_neg (by omega), if_neg (by omega), if_neg (by omega), if_neg (by omega), if_neg (by omega), show (34 + 2 * k + q - 34) % 2 = q by omega]
theorem xd_Mp {k q : Nat} (hq : q < 2) : xd_M (34 + 2 * k + q) = xd_P k q := by
  funext j
  unfold xd_M
  rw [if_neg (by omega), if_neg (by omega), if_neg (by omega), show (34 + 2 * k + q - 34) % 2 = q by omega, show (34 + 2 * k + q - 34) / 2 = k by omega]
theorem xz_Mk {G : va_G} {g : Nat → ClassId} {H : Heap} {x : Nat} (h : xk_M G g x H) : xz_S G g H x 82 xz_M xd_M := fun o ho => by
  rcases (show o = 0 ∨ o = 1 ∨ o = 2 ∨ o = 3 ∨ (4 ≤ o ∧ o < 34) ∨ 34 ≤ o by omega) with rfl | rfl | rfl | rfl | ⟨h1, h2⟩ | h1
  · exact ⟨h.1, trivial⟩
  · exact ⟨h.2.1, trivial⟩
  · exact ⟨h.2.2.1, trivial⟩
  · exact ⟨h.2.2.2.1, trivial⟩
  · obtain ⟨w, q, hw, hq, rfl⟩ : ∃ w q, w < 6 ∧ q < 5 ∧ o = 4 + 5 * w + q := ⟨(o - 4) / 5, (o - 4) % 5, by omega, by omega, by omega⟩
    exact xz_to (xz_Wk (h.2.2.2.2.1 w hw) q hq) (by omega) (xz_Mw hw hq) (xd_Mw hw hq)
  · obtain ⟨k, q, hk, hq, rfl⟩ : ∃ k q, k < 24 ∧ q < 2 ∧ o = 34 + 2 * k + q := ⟨(o - 34) / 2, (o - 34) % 2, by omega, by omega, by omega⟩
    exact xz_to (xz_Pk (h.2.2.2.2.2 k hk) q hq) (by omega) (xz_Mp hq) (xd_Mp hq)
theorem xz_Hm {i q : Nat} (hq : q < 82) : xz_H (2 + 82 * i + q) = xz_M q := by
  unfold xz_H
  rw [if_neg (by omega), if_neg (by omega), show (2 + 82 * i + q - 2) % 82 = q by omega]
theorem xd_Hm {i q : Nat} (hq : q < 82) : xd_H (2 + 82 * i + q) = xd_M q := by
  funext j
  unfold xd_H
  rw [if_neg (by omega), show (2 + 82 * i + q - 2) % 82 = q by omega]
theorem xz_Hk {G : va_G} {g : Nat → ClassId} {H : Heap} {x : Nat} (h : xk_H G g x H) : xz_S G g H x 494 xz_H xd_H := fun o ho => by
  rcases (show o = 0 ∨ o = 1 ∨ 2 ≤ o by omega) with rfl | rfl | h1
  · exact ⟨h.1, trivial⟩
  · exact ⟨h.2.1, trivial⟩
  · obtain ⟨i, q, hi, hq, rfl⟩ : ∃ i q, i < 6 ∧ q < 82 ∧ o = 2 + 82 * i + q := ⟨(o - 2) / 82, (o - 2) % 82, by omega, by omega, by omega⟩
    exact xz_to (xz_Mk (h.2.2 i hi) q hq) (by omega) (xz_Hm hq) (xd_Hm hq)
theorem xz_B1 {o : Nat} (h1 : 1 ≤ o) (h2 : o < 83) : xz_B o = xz_M (o - 1) ∧ xd_B o = xd_M (o - 1) := by
  constructor
  · unfold xz_B
    rw [if_neg (by omega), if_pos h2]
  · funext j
    unfold xd_B
    rw [if_neg (by omega), if_pos h2]
theorem xz_B2 {o : Nat} (h1 : 83 ≤ o) (h2 : o < 165) : xz_B o = xz_M (o - 83) ∧ xd_B o = xd_M (o - 83) := by
  constructor
  · unfold xz_B
    rw [if_neg (by omega), if_neg (by omega), if_pos h2]
  · funext j
    unfold xd_B
    rw [if_neg (by omega), if_neg (by omega), if_pos h2]
theorem xz_B3 {o : Nat} (h1 : 165 ≤ o) (h2 : o < 659) : xz_B o = xz_H (o - 165) ∧ xd_B o = xd_H (o - 165) := by
  constructor
  · unfold xz_B
    rw [if_neg (by omega), if_neg (by omega), if_neg (by omega), if_pos h2]
  · funext j
    unfold xd_B
    rw [if_neg (by omega), if_neg (by omega), if_neg (by omega), if_pos h2]
theorem xz_B4 {i q : Nat} (hi : i < 2) (hq : q < 82) : xz_B (660 + 82 * i + q) = xz_M q ∧ xd_B (660 + 82 * i + q) = xd_M q := by
  constructor
  · unfold xz_B
    rw [if_neg (by omega), if_neg (by omega), if_neg (by omega), if_neg (by omega), if_neg (by omega), if_pos (by omega), show (660 + 82 * i + q - 660) % 82 = q by omega]
  · funext j
    unfold xd_B
    rw [if_neg (by omega), if_neg (by omega), if_neg (by omega), if_neg (by omega), if_neg (by omega), if_pos (by omega), show (660 + 82 * i + q - 660) % 82 = q by omega]
theorem xz_Bk {G : va_G} {g : Nat → ClassId} {H : Heap} {x : Nat} (h : xk_B G g x H) : xz_S G g H x 827 xz_B xd_B := fun o ho => by
  rcases (show o = 0 ∨ (1 ≤ o ∧ o < 83) ∨ (83 ≤ o ∧ o < 165) ∨ (165 ≤ o ∧ o < 659) ∨ o = 659 ∨ (660 ≤ o ∧ o < 824) ∨ o = 824 ∨ o = 825 ∨ o = 826 by omega) with rfl | ⟨h1, h2⟩ | ⟨h1, h2⟩ | ⟨h1, h2⟩ | rfl | ⟨h1, h2⟩ | rfl | rfl | rfl
  · exact ⟨h.1, trivial⟩
  · exact xz_to (xz_Mk h.2.1 (o - 1) (by omega)) (by omega) (xz_B1 h1 h2).1 (xz_B1 h1 h2).2
  · exact xz_to (xz_Mk h.2.2.1 (o - 83) (by omega)) (by omega) (xz_B2 h1 h2).1 (xz_B2 h1 h2).2
  · exact xz_to (xz_Hk h.2.2.2.1 (o - 165) (by omega)) (by omega) (xz_B3 h1 h2).1 (xz_B3 h1 h2).2
  · exact ⟨h.2.2.2.2.1, trivial⟩
  · obtain ⟨i, q, hi, hq, rfl⟩ : ∃ i q, i < 2 ∧ q < 82 ∧ o = 660 + 82 * i + q := ⟨(o - 660) / 82, (o - 660) % 82, by omega, by omega, by omega⟩
    exact xz_to (xz_Mk (h.2.2.2.2.2.1 i hi) q hq) (by omega) (xz_B4 hi hq).1 (xz_B4 hi hq).2
  · exact ⟨h.2.2.2.2.2.2.1, xb_0, xb_0⟩
  · exact ⟨h.2.2.2.2.2.2.2.1, trivial⟩
  · exact ⟨h.2.2.2.2.2.2.2.2, trivial⟩
theorem xz_Rk {G : va_G} {g : Nat → ClassId} {H : Heap} {x : Nat} (h : xk_R G g x H) : xz_S G g H x 10 xz_R xd_R := fun o ho => by
  obtain ⟨h0, h1, h2, h3, h4, h5, h6, h7, h8, h9⟩ := h
  rcases (show o = 0 ∨ o = 1 ∨ o = 2 ∨ o = 3 ∨ o = 4 ∨ o = 5 ∨ o = 6 ∨ o = 7 ∨ o = 8 ∨ o = 9 by omega) with rfl | rfl | rfl | rfl | rfl | rfl | rfl | rfl | rfl | rfl
  · exact ⟨h0, trivial⟩
  · exact ⟨h1, trivial⟩
  · exact ⟨h2, trivial⟩
  · exact ⟨h3, trivial⟩
  · exact ⟨h4, trivial⟩
  · exact ⟨h5, trivial⟩
  · exact ⟨h6, trivial⟩
  · exact ⟨h7, trivial⟩
  · exact ⟨h8, trivial⟩
  · exact ⟨h9, trivial⟩
theorem xz_R0 {o : Nat} (h : 10 ≤ o) : xz_R o = 0 := by
  unfold xz_R
  rw [if_neg (by omega), if_neg (by omega), if_neg (by omega), if_neg (by omega), if_neg (by omega), if_neg (by omega), if_neg (by omega), if_neg (by omega), if_neg (by omega), if_neg (by omega)]
theorem xz_at {h x κ : Nat} (e : xz_t h x = κ) (hκ : κ ≠ 0) : ∃ o, o < 827 ∧ x = h + o ∧ xz_A o = κ := by
  by_cases h1 : x < h
  · unfold xz_t at e
    rw [if_pos h1] at e
    exact absurd e.symm hκ
  · have h2 := e
    unfold xz_t at h2
    rw [if_neg h1] at h2
    refine ⟨x - h, ?_, by omega, h2⟩
    by_cases h3 : x - h < 827
    · exact h3
    · unfold xz_A at h2
      rw [if_neg h3] at h2
      exact absurd h2.symm hκ
theorem xz_tp {h x : Nat} (o : Nat) (hx : x = h + o) : xz_t h x = xz_A o := by
  subst hx
  unfold xz_t
  rw [if_neg (by omega), Nat.add_sub_cancel_left]
theorem xd_tp {h x : Nat} (o : Nat) (hx : x = h + o) : xd_m h x = xd_B o := by
  subst hx
  funext j
  show xd_B (h + o - h) j = _
  rw [Nat.add_sub_cancel_left]
theorem xy_at {r x κ : Nat} (e : xy_t r x = κ) (hκ : κ ≠ 0) : ∃ o, o < 10 ∧ x = r + o ∧ xz_R o = κ := by
  by_cases h1 : x < r
  · unfold xy_t at e
    rw [if_pos h1] at e
    exact absurd e.symm hκ
  · have h2 := e
    unfold xy_t at h2
    rw [if_neg h1] at h2
    refine ⟨x - r, ?_, by omega, h2⟩
    by_cases h3 : x - r < 10
    · exact h3
    · rw [xz_R0 (by omega)] at h2
      exact absurd h2.symm hκ
theorem xy_tp {r x : Nat} (o : Nat) (hx : x = r + o) : xy_t r x = xz_R o := by
  subst hx
  unfold xy_t
  rw [if_neg (by omega), Nat.add_sub_cancel_left]
theorem xy_mp {r x : Nat} (o : Nat) (hx : x = r + o) : xy_m r x = xd_R o := by
  subst hx
  funext j
  show xd_R (r + o - r) j = _
  rw [Nat.add_sub_cancel_left]
theorem xz_D {G : va_G} {g : Nat → ClassId} {H : Heap} {h : Nat} (hB : xk_B G g h H) : xw_D G g (xz_t h) (xd_m h) H := fun x hx => by
  obtain ⟨o, ho, rfl, -⟩ := xz_at (κ := xz_t h x) rfl hx
  exact xz_to (xz_Bk hB o ho) rfl ((xz_tp o rfl).trans (by unfold xz_A; rw [if_pos ho])) (xd_tp o rfl)
theorem xy_D {G : va_G} {g : Nat → ClassId} {H : Heap} {r : Nat} (hR : xk_R G g r H) : xw_D G g (xy_t r) (xy_m r) H := fun x hx => by
  obtain ⟨o, ho, rfl, -⟩ := xy_at (κ := xy_t r x) rfl hx
  exact xz_to (xz_Rk hR o ho) rfl (xy_tp o rfl) (xy_mp o rfl)
theorem xz_O1 : ∀ o, o < 827 → xz_A o = 1 → xz_A (o + 1) = 103 ∧ xz_A (o + 2) = 3 ∧ xz_A (o + 3) = 4 ∧ (∀ w, w < 6 → xz_A (o + 5 * w + 4) = 5) ∧ ∀ k, k < 24 → xz_A (o + 2 * k + 34) = 8 := by decide +kernel
theorem xz_O2 : ∀ o, o < 827 → (xz_A o = 5 → xz_A (o + 1) = 6 ∧ xz_A (o + 3) = 6) ∧ (xz_A o = 6 → xz_A (o + 1) = 124) ∧ (xz_A o = 8 → xz_A (o + 1) = 108) ∧ (xz_A o = 10 → xz_A (o + 1) = 11 ∧ ∀ i, i < 6 → xz_A (o + 82 * i + 2) = 1) ∧ (xz_A o = 14 → xz_A (o + 1) = 15) := by decide +kernel
theorem xz_O3 : ∀ o, o < 827 → (xz_A o = 16 → xz_A (o + 1) = 1 ∧ xz_A (o + 83) = 1 ∧ xz_A (o + 165) = 10 ∧ xz_A (o + 659) = 12 ∧ (∀ i, i < 2 → xz_A (o + 82 * i + 660) = 1) ∧ xz_A (o + 824) = 13 ∧ xz_A (o + 825) = 14) ∧ xz_A o ≠ 20 := by decide +kernel
theorem xy_O1 : ∀ o, o < 10 → (xz_R o ≠ 1 ∧ xz_R o ≠ 5 ∧ xz_R o ≠ 6 ∧ xz_R o ≠ 8 ∧ xz_R o ≠ 10 ∧ xz_R o ≠ 14 ∧ xz_R o ≠ 16) ∧ (xz_R o = 20 → o = 0) := by decide +kernel
theorem xz_O (h : Nat) : xk_O (xz_t h) (fun q => h ≤ q ∧ q < h + 827) := by
  refine ⟨fun x hx => ?_, fun x e => ?_, fun x e => ?_, fun x e => ?_, fun x e => ?_, fun x e => ?_, fun x e => ?_, fun x e => ?_, fun x e => ?_⟩
  · obtain ⟨o, ho, rfl, -⟩ := xz_at (κ := xz_t h x) rfl hx
    exact ⟨Nat.le_add_right h o, Nat.add_lt_add_left ho h⟩
  · obtain ⟨o, ho, rfl, e1⟩ := xz_at e (by decide)
    obtain ⟨q1, q2, q3, q4, q5⟩ := xz_O1 o ho e1
    exact ⟨(xz_tp (o + 1) (by omega)).trans q1, (xz_tp (o + 2) (by omega)).trans q2, (xz_tp (o + 3) (by omega)).trans q3, fun w hw => (xz_tp (o + 5 * w + 4) (by omega)).trans (q4 w hw), fun k hk => (xz_tp (o + 2 * k + 34) (by omega)).trans (q5 k hk)⟩
  · obtain ⟨o, ho, rfl, e1⟩ := xz_at e (by decide)
    have q := (xz_O2 o ho).1 e1
    exact ⟨(xz_tp (o + 1) (by omega)).trans q.1, (xz_tp (o + 3) (by omega)).trans q.2⟩
  · obtain ⟨o, ho, rfl, e1⟩ := xz_at e (by decide)
    exact (xz_tp (o + 1) (by omega)).trans ((xz_O2 o ho).2.1 e1)
  · obtain ⟨o, ho, rfl, e1⟩ := xz_at e (by decide)
    exact (xz_tp (o + 1) (by omega)).trans ((xz_O2 o ho).2.2.1 e1)
  · obtain ⟨o, ho, rfl, e1⟩ := xz_at e (by decide)
    have q := (xz_O2 o ho).2.2.2.1 e1
    exact ⟨(xz_tp (o + 1) (by omega)).trans q.1, fun i hi => (xz_tp (o + 82 * i + 2) (by omega)).trans (q.2 i hi)⟩
  · obtain ⟨o, ho, rfl, e1⟩ := xz_at e (by decide)
    exact (xz_tp (o + 1) (by omega)).trans ((xz_O2 o ho).2.2.2.2 e1)
  · obtain ⟨o, ho, rfl, e1⟩ := xz_at e (by decide)
    obtain ⟨q1, q2, q3, q4, q5, q6, q7⟩ := (xz_O3 o ho).1 e1
    exact ⟨(xz_tp (o + 1) (by omega)).trans q1, (xz_tp (o + 83) (by omega)).trans q2, (xz_tp (o + 165) (by omega)).trans q3, (xz_tp (o + 659) (by omega)).trans q4, fun i hi => (xz_tp (o + 82 * i + 660) (by omega)).trans (q5 i hi), (xz_tp (o + 824) (by omega)).trans q6, (xz_tp (o + 825) (by omega)).trans q7⟩
  · obtain ⟨o, ho, rfl, e1⟩ := xz_at e (by decide)
    exact absurd e1 (xz_O3 o ho).2
theorem xy_O (r : Nat) : xk_O (xy_t r) (fun q => r ≤ q) := by
  refine ⟨fun x hx => ?_, fun x e => ?_, fun x e => ?_, fun x e => ?_, fun x e => ?_, fun x e => ?_, fun x e => ?_, fun x e => ?_, fun x e => ?_⟩
  · obtain ⟨o, ho, rfl, -⟩ := xy_at (κ := xy_t r x) rfl hx
    exact Nat.le_add_right r o
  · obtain ⟨o, ho, rfl, e1⟩ := xy_at e (by decide)
    exact absurd e1 (xy_O1 o ho).1.1
  · obtain ⟨o, ho, rfl, e1⟩ := xy_at e (by decide)
    exact absurd e1 (xy_O1 o ho).1.2.1
  · obtain ⟨o, ho, rfl, e1⟩ := xy_at e (by decide)
    exact absurd e1 (xy_O1 o ho).1.2.2.1
  · obtain ⟨o, ho, rfl, e1⟩ := xy_at e (by decide)
    exact absurd e1 (xy_O1 o ho).1.2.2.2.1
  · obtain ⟨o, ho, rfl, e1⟩ := xy_at e (by decide)
    exact absurd e1 (xy_O1 o ho).1.2.2.2.2.1
  · obtain ⟨o, ho, rfl, e1⟩ := xy_at e (by decide)
    exact absurd e1 (xy_O1 o ho).1.2.2.2.2.2.1
  · obtain ⟨o, ho, rfl, e1⟩ := xy_at e (by decide)
    exact absurd e1 (xy_O1 o ho).1.2.2.2.2.2.2
  · obtain ⟨o, ho, rfl, e1⟩ := xy_at e (by decide)
    obtain rfl := (xy_O1 o ho).2 e1
    exact ⟨(xy_tp 1 (by omega)).trans (by decide), (xy_tp 2 (by omega)).trans (by decide), (xy_tp 3 (by omega)).trans (by decide), (xy_tp 4 (by omega)).trans (by decide), (xy_tp 5 (by omega)).trans (by decide), (xy_tp 6 (by omega)).trans (by decide), (xy_tp 7 (by omega)).trans (by decide), (xy_tp 8 (by omega)).trans (by decide), (xy_tp 9 (by omega)).trans (by decide)⟩
theorem xz_16 (h : Nat) : xz_t h h = 16 := (xz_tp 0 rfl).trans (by decide)
theorem xy_20 (r : Nat) : xy_t r r = 20 := (xy_tp 0 rfl).trans (by decide)
theorem xp_0 : xp_F xd_B 0 := by
  unfold xp_F xp_N xe_E
  decide +kernel
theorem xp_h (h : Nat) : xp_F (xd_m h) h := by
  have T : ∀ {x : Nat} (o : Nat), x = h + o → xd_m h x = xd_B o := fun o e => xd_tp o e
  obtain ⟨q1, q2, q3, q4, q5, q6, q7, q8, q9⟩ := xp_0
  refine ⟨fun k hk => ⟨?_, ?_, fun i hi => ?_, fun i hi => ?_⟩, ⟨fun w hw => ⟨?_, ?_⟩, fun k hk => ?_⟩, ⟨?_, ?_, ?_, ?_⟩, fun k hk => ?_, fun w hw => ⟨?_, ?_, ?_, ?_, ?_⟩, fun k hk => ⟨?_, ?_, ?_⟩, ⟨?_, ?_⟩, fun i hi => ?_, ?_⟩
  · rw [T (0 + 1 + 2 * k + 34) (by omega)]; exact (q1 k hk).1
  · rw [T (0 + 83 + 2 * k + 34) (by omega)]; exact (q1 k hk).2.1
  · rw [T (0 + 165 + 82 * i + 2 + 2 * k + 34) (by omega)]; exact (q1 k hk).2.2.1 i hi
  · rw [T (0 + 82 * i + 660 + 2 * k + 34) (by omega)]; exact (q1 k hk).2.2.2 i hi
  · rw [T (0 + 1 + 5 * w + 5) (by omega)]; exact (q2.1 w hw).1
  · rw [T (0 + 1 + 5 * w + 7) (by omega)]; exact (q2.1 w hw).2
  · rw [T (0 + 1 + 2 * k + 34) (by omega)]; exact q2.2 k hk
  · rw [T (0 + 1) (by omega)]; exact q3.1
  · rw [T (0 + 1) (by omega)]; exact q3.2.1
  · rw [T (0 + 1) (by omega)]; exact q3.2.2.1
  · rw [T (0 + 1) (by omega)]; exact q3.2.2.2
  · rw [T (0 + 2) (by omega)]; exact q4 k hk
  · rw [T (0 + 1 + 5 * w + 4) (by omega)]; exact (q5 w hw).1
  · rw [T (0 + 1 + 5 * w + 4) (by omega)]; exact (q5 w hw).2.1
  · rw [T (0 + 1 + 5 * w + 4) (by omega)]; exact (q5 w hw).2.2.1
  · rw [T (0 + 1 + 5 * w + 4) (by omega)]; exact (q5 w hw).2.2.2.1
  · rw [T (0 + 1 + 5 * w + 4) (by omega)]; exact (q5 w hw).2.2.2.2
  · rw [T (0 + 1 + 2 * k + 34) (by omega)]; exact (q6 k hk).1
  · rw [T (0 + 1 + 2 * k + 34) (by omega)]; exact (q6 k hk).2.1
  · rw [T (0 + 1 + 2 * k + 34) (by omega)]; exact (q6 k hk).2.2
  · rw [T (0 + 165) (by omega)]; exact q7.1
  · rw [T (0 + 165) (by omega)]; exact q7.2
  · rw [T (0 + 824) (by omega)]; exact q8 i hi
  · rw [T (0 + 825) (by omega)]; exact q9
theorem xy_h (r : Nat) : xr_F (xy_m r) r := by
  refine ⟨fun j hj => ?_, ?_, ?_, fun i hi => ?_⟩
  · rw [xy_mp 1 (by omega)]; rfl
  · rw [xy_mp 0 (by omega)]; rfl
  · rw [xy_mp 0 (by omega)]; rfl
  · rw [xy_mp 5 (by omega)]; rfl
theorem xk_R.kept {G : va_G} {g : Nat → ClassId} {x : Nat} {H H1 : Heap} (h : xk_R G g x H) (ho : ∀ q, x ≤ q ∧ q < x + 10 → H1[q]? = H[q]?) : xk_R G g x H1 := by
  obtain ⟨h0, h1, h2, h3, h4, h5, h6, h7, h8, h9⟩ := h
  exact ⟨h0.kept (ho _ (by omega)), h1.kept (ho _ (by omega)), h2.kept (ho _ (by omega)), h3.kept (ho _ (by omega)), h4.kept (ho _ (by omega)), h5.kept (ho _ (by omega)), h6.kept (ho _ (by omega)), h7.kept (ho _ (by omega)), h8.kept (ho _ (by omega)), h9.kept (ho _ (by omega))⟩

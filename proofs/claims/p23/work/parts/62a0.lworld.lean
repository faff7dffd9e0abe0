/-! THE WORLDS OF THE LAW: a new HalfTickets at h (827 cells), a new model at r (10 cells): kinds and numbers by the offset -/
def xz_W (o : Nat) : Nat := if o = 0 then 5 else if o = 1 then 6 else if o = 2 then 124 else if o = 3 then 6 else 124
def xz_P (o : Nat) : Nat := if o = 0 then 8 else 108
def xz_M (o : Nat) : Nat := if o = 0 then 1 else if o = 1 then 103 else if o = 2 then 3 else if o = 3 then 4 else if o < 34 then xz_W ((o - 4) % 5) else xz_P ((o - 34) % 2)
def xz_H (o : Nat) : Nat := if o = 0 then 10 else if o = 1 then 11 else xz_M ((o - 2) % 82)
def xz_B (o : Nat) : Nat := if o = 0 then 16 else if o < 83 then xz_M (o - 1) else if o < 165 then xz_M (o - 83) else if o < 659 then xz_H (o - 165) else if o = 659 then 12 else if o < 824 then xz_M ((o - 660) % 82) else if o = 824 then 13 else if o = 825 then 14 else 15
def xz_A (o : Nat) : Nat := if o < 827 then xz_B o else 0
def xz_t (h x : Nat) : Nat := if x < h then 0 else xz_A (x - h)
def xd_W (o j : Nat) : Int32 := if o = 0 then (if j < 2 then nI 1 else if j = 2 then nI 8 else nI 0) else nI 0
def xd_P (k o j : Nat) : Int32 := if o = 0 then (if j = 0 then nI k else if j = 3 then nI 4 else if j = 10 then -6 else nI 0) else nI 0
def xd_M (o j : Nat) : Int32 := if o = 1 then xs_0 j else if o < 4 then nI 0 else if o < 34 then xd_W ((o - 4) % 5) j else xd_P ((o - 34) / 2) ((o - 34) % 2) j
def xd_H (o j : Nat) : Int32 := if o < 2 then nI 0 else xd_M ((o - 2) % 82) j
def xd_B (o j : Nat) : Int32 := if o = 0 then nI 0 else if o < 83 then xd_M (o - 1) j else if o < 165 then xd_M (o - 83) j else if o < 659 then xd_H (o - 165) j else if o = 659 then nI 0 else if o < 824 then xd_M ((o - 660) % 82) j else nI 0
def xd_m (h : Nat) : xm_T := fun x j => xd_B (x - h) j
/-- the cells x .. x + n - 1 are as t and d say by the offset -/
def xz_S (G : va_G) (g : Nat → ClassId) (H : Heap) (x n : Nat) (t : Nat → Nat) (d : Nat → Nat → Int32) : Prop := ∀ o, o < n → va_at G vwCl (x + o, xw_cell g (t o) (d o) (x + o)) H ∧ xw_ok (t o) (d o)
theorem xz_to {G : va_G} {g : Nat → ClassId} {H : Heap} {x x' t t' : Nat} {d d' : Nat → Int32} (h : va_at G vwCl (x', xw_cell g t' d' x') H ∧ xw_ok t' d') (hx : x = x') (ht : t = t') (hd : d = d') : va_at G vwCl (x, xw_cell g t d x) H ∧ xw_ok t d := by
  subst hx
  subst ht
  subst hd
  exact h
theorem xz_Wk {G : va_G} {g : Nat → ClassId} {H : Heap} {x : Nat} (h : xk_W G g x (nI 8) H) : xz_S G g H x 5 xz_W xd_W := fun o ho => by
  rcases (show o = 0 ∨ o = 1 ∨ o = 2 ∨ o = 3 ∨ o = 4 by omega) with rfl | rfl | rfl | rfl | rfl
  · exact ⟨h.1, xb_1⟩
  · exact ⟨h.2.1.1, trivial⟩
  · exact ⟨h.2.1.2, trivial⟩
  · exact ⟨h.2.2.1, trivial⟩
  · exact ⟨h.2.2.2, trivial⟩
theorem xz_Pk {G : va_G} {g : Nat → ClassId} {H : Heap} {x k : Nat} (h : xk_P G g x (nI k) H) : xz_S G g H x 2 xz_P (xd_P k) := fun o ho => by
  rcases (show o = 0 ∨ o = 1 by omega) with rfl | rfl
  · exact ⟨h.1, xb_0, xb_0⟩
  · exact ⟨h.2, trivial⟩
theorem xz_Mw {w q : Nat} (hw : w < 6) (hq : q < 5) : xz_M (4 + 5 * w + q) = xz_W q := by
  unfold xz_M
  rw [if_neg (by omega), if_neg (by omega), if_neg (by omega), if_neg (by omega), if_pos (by omega), show (4 + 5 * w + q - 4) % 5 = q by omega]
theorem xd_Mw {w q : Nat} (hw : w < 6) (hq : q < 5) : xd_M (4 + 5 * w + q) = xd_W q := by
  funext j
  unfold xd_M
  rw [if_neg (by omega), if_neg (by omega), if_pos (by omega), show (4 + 5 * w + q - 4) % 5 = q by omega]
theorem xz_Mp {k q : Nat} (hq : q < 2) : xz_M (34 + 2 * k + q) = xz_P q := by
  unfold xz_M
  rw [if_neg (by omega), if_neg (by omega), if_neg (by omega), if_neg (by omega), if_neg (by omega), show (34 + 2 * k + q - 34) % 2 = q by omega]
theorem xd_Mp {k q : Nat} (hq : q < 2) : xd_M (34 + 2 * k + q) = xd_P k q := by
  funext j
  unfold xd_M
  rw [if_neg (by omega), if_neg (by omega), if_neg (by omega), show (34 + 2 * k + q - 34) % 2 = q by omega, show (34 + 2 * k + q - 34) / 2 = k by omega]
theorem xz_Mk {G : va_G} {g : Nat → ClassId} {H : Heap} {x : Nat} (h : xk_M G g x H) : xz_S G g H x 82 xz_M xd_M := fun o ho => by
  rcases (show o = 0 ∨ o = 1 ∨ o = 2 ∨ o = 3 ∨ (4 ≤ o ∧ o < 34) ∨ 34 ≤ o by omega) with rfl | rfl | rfl | rfl | ⟨h1, h2⟩ | h1
  · exact ⟨h.1, trivial⟩
  · exact ⟨h.2.1, trivial⟩
  · exact ⟨h.2.2.1, trivial⟩
  · exact ⟨h.2.2.2.1, trivial⟩
  · obtain ⟨w, q, hw, hq, rfl⟩ : ∃ w q, w < 6 ∧ q < 5 ∧ o = 4 + 5 * w + q := ⟨(o - 4) / 5, (o - 4) % 5, by omega, by omega, by omega⟩
    exact xz_to (xz_Wk (h.2.2.2.2.1 w hw) q hq) (by omega) (xz_Mw hw hq) (xd_Mw hw hq)
  · obtain ⟨k, q, hk, hq, rfl⟩ : ∃ k q, k < 24 ∧ q < 2 ∧ o = 34 + 2 * k + q := ⟨(o - 34) / 2, (o - 34) % 2, by omega, by omega, by omega⟩
    exact xz_to (xz_Pk (h.2.2.2.2.2 k hk) q hq) (by omega) (xz_Mp hq) (xd_Mp hq)
theorem xz_Hm {i q : Nat} (hq : q < 82) : xz_H (2 + 82 * i + q) = xz_M q := by
  unfold xz_H
  rw [if_neg (by omega), if_neg (by omega), show (2 + 82 * i + q - 2) % 82 = q by omega]
theorem xd_Hm {i q : Nat} (hq : q < 82) : xd_H (2 + 82 * i + q) = xd_M q := by
  funext j
  unfold xd_H
  rw [if_neg (by omega), show (2 + 82 * i + q - 2) % 82 = q by omega]
theorem xz_Hk {G : va_G} {g : Nat → ClassId} {H : Heap} {x : Nat} (h : xk_H G g x H) : xz_S G g H x 494 xz_H xd_H := fun o ho => by
  rcases (show o = 0 ∨ o = 1 ∨ 2 ≤ o by omega) with rfl | rfl | h1
  · exact ⟨h.1, trivial⟩
  · exact ⟨h.2.1, trivial⟩
  · obtain ⟨i, q, hi, hq, rfl⟩ : ∃ i q, i < 6 ∧ q < 82 ∧ o = 2 + 82 * i + q := ⟨(o - 2) / 82, (o - 2) % 82, by omega, by omega, by omega⟩
    exact xz_to (xz_Mk (h.2.2 i hi) q hq) (by omega) (xz_Hm hq) (xd_Hm hq)
theorem xz_B1 {o : Nat} (h1 : 1 ≤ o) (h2 : o < 83) : xz_B o = xz_M (o - 1) ∧ xd_B o = xd_M (o - 1) := by
  constructor
  · unfold xz_B
    rw [if_neg (by omega), if_pos h2]
  · funext j
    unfold xd_B
    rw [if_neg (by omega), if_pos h2]
theorem xz_B2 {o : Nat} (h1 : 83 ≤ o) (h2 : o < 165) : xz_B o = xz_M (o - 83) ∧ xd_B o = xd_M (o - 83) := by
  constructor
  · unfold xz_B
    rw [if_neg (by omega), if_neg (by omega), if_pos h2]
  · funext j
    unfold xd_B
    rw [if_neg (by omega), if_neg (by omega), if_pos h2]
theorem xz_B3 {o : Nat} (h1 : 165 ≤ o) (h2 : o < 659) : xz_B o = xz_H (o - 165) ∧ xd_B o = xd_H (o - 165) := by
  constructor
  · unfold xz_B
    rw [if_neg (by omega), if_neg (by omega), if_neg (by omega), if_pos h2]
  · funext j
    unfold xd_B
    rw [if_neg (by omega), if_neg (by omega), if_neg (by omega), if_pos h2]
theorem xz_B4 {i q : Nat} (hi : i < 2) (hq : q < 82) : xz_B (660 + 82 * i + q) = xz_M q ∧ xd_B (660 + 82 * i + q) = xd_M q := by
  constructor
  · unfold xz_B
    rw [if_neg (by omega), if_neg (by omega), if_neg (by omega), if_neg (by omega), if_neg (by omega), if_pos (by omega), show (660 + 82 * i + q - 660) % 82 = q by omega]
  · funext j
    unfold xd_B
    rw [if_neg (by omega), if_neg (by omega), if_neg (by omega), if_neg (by omega), if_neg (by omega), if_pos (by omega), show (660 + 82 * i + q - 660) % 82 = q by omega]
theorem xz_Bk {G : va_G} {g : Nat → ClassId} {H : Heap} {x : Nat} (h : xk_B G g x H) : xz_S G g H x 827 xz_B xd_B := fun o ho => by
  rcases (show o = 0 ∨ (1 ≤ o ∧ o < 83) ∨ (83 ≤ o ∧ o < 165) ∨ (165 ≤ o ∧ o < 659) ∨ o = 659 ∨ (660 ≤ o ∧ o < 824) ∨ o = 824 ∨ o = 825 ∨ o = 826 by omega) with rfl | ⟨h1, h2⟩ | ⟨h1, h2⟩ | ⟨h1, h2⟩ | rfl | ⟨h1, h2⟩ | rfl | rfl | rfl
  · exact ⟨h.1, trivial⟩
  · exact xz_to (xz_Mk h.2.1 (o - 1) (by omega)) (by omega) (xz_B1 h1 h2).1 (xz_B1 h1 h2).2
  · exact xz_to (xz_Mk h.2.2.1 (o - 83) (by omega)) (by omega) (xz_B2 h1 h2).1 (xz_B2 h1 h2).2
  · exact xz_to (xz_Hk h.2.2.2.1 (o - 165) (by omega)) (by omega) (xz_B3 h1 h2).1 (xz_B3 h1 h2).2
  · exact ⟨h.2.2.2.2.1, trivial⟩
  · obtain ⟨i, q, hi, hq, rfl⟩ : ∃ i q, i < 2 ∧ q < 82 ∧ o = 660 + 82 * i + q := ⟨(o - 660) / 82, (o - 660) % 82, by omega, by omega, by omega⟩
    exact xz_to (xz_Mk (h.2.2.2.2.2.1 i hi) q hq) (by omega) (xz_B4 hi hq).1 (xz_B4 hi hq).2
  · exact ⟨h.2.2.2.2.2.2.1, xb_0, xb_0⟩
  · exact ⟨h.2.2.2.2.2.2.2.1, trivial⟩
  · exact ⟨h.2.2.2.2.2.2.2.2, trivial⟩
theorem xz_at {h x κ : Nat} (e : xz_t h x = κ) (hκ : κ ≠ 0) : ∃ o, o < 827 ∧ x = h + o ∧ xz_A o = κ := by
  by_cases h1 : x < h
  · unfold xz_t at e
    rw [if_pos h1] at e
    exact absurd e.symm hκ
  · have h2 := e
    unfold xz_t at h2
    rw [if_neg h1] at h2
    refine ⟨x - h, ?_, by omega, h2⟩
    by_cases h3 : x - h < 827
    · exact h3
    · unfold xz_A at h2
      rw [if_neg h3] at h2
      exact absurd h2.symm hκ
theorem xz_tp {h x : Nat} (o : Nat) (hx : x = h + o) : xz_t h x = xz_A o := by
  subst hx
  unfold xz_t
  rw [if_neg (by omega), Nat.add_sub_cancel_left]
theorem xd_tp {h x : Nat} (o : Nat) (hx : x = h + o) : xd_m h x = xd_B o := by
  subst hx
  funext j
  show xd_B (h + o - h) j = _
  rw [Nat.add_sub_cancel_left]
theorem xz_D {G : va_G} {g : Nat → ClassId} {H : Heap} {h : Nat} (hB : xk_B G g h H) : xw_D G g (xz_t h) (xd_m h) H := fun x hx => by
  obtain ⟨o, ho, rfl, -⟩ := xz_at (κ := xz_t h x) rfl hx
  exact xz_to (xz_Bk hB o ho) rfl ((xz_tp o rfl).trans (by unfold xz_A; rw [if_pos ho])) (xd_tp o rfl)
theorem xz_O1 : ∀ o, o < 827 → xz_A o = 1 → xz_A (o + 1) = 103 ∧ xz_A (o + 2) = 3 ∧ xz_A (o + 3) = 4 ∧ (∀ w, w < 6 → xz_A (o + 5 * w + 4) = 5) ∧ ∀ k, k < 24 → xz_A (o + 2 * k + 34) = 8 := by decide +kernel
theorem xz_O2 : ∀ o, o < 827 → (xz_A o = 5 → xz_A (o + 1) = 6 ∧ xz_A (o + 3) = 6) ∧ (xz_A o = 6 → xz_A (o + 1) = 124) ∧ (xz_A o = 8 → xz_A (o + 1) = 108) ∧ (xz_A o = 10 → xz_A (o + 1) = 11 ∧ ∀ i, i < 6 → xz_A (o + 82 * i + 2) = 1) ∧ (xz_A o = 14 → xz_A (o + 1) = 15) := by decide +kernel
theorem xz_O3 : ∀ o, o < 827 → (xz_A o = 16 → xz_A (o + 1) = 1 ∧ xz_A (o + 83) = 1 ∧ xz_A (o + 165) = 10 ∧ xz_A (o + 659) = 12 ∧ (∀ i, i < 2 → xz_A (o + 82 * i + 660) = 1) ∧ xz_A (o + 824) = 13 ∧ xz_A (o + 825) = 14) ∧ xz_A o ≠ 20 := by decide +kernel
theorem xz_O (h : Nat) : xk_O (xz_t h) (fun q => h ≤ q ∧ q < h + 827) := by
  refine ⟨fun x hx => ?_, fun x e => ?_, fun x e => ?_, fun x e => ?_, fun x e => ?_, fun x e => ?_, fun x e => ?_, fun x e => ?_, fun x e => ?_⟩
  · obtain ⟨o, ho, rfl, -⟩ := xz_at (κ := xz_t h x) rfl hx
    exact ⟨Nat.le_add_right h o, Nat.add_lt_add_left ho h⟩
  · obtain ⟨o, ho, rfl, e1⟩ := xz_at e (by decide)
    obtain ⟨q1, q2, q3, q4, q5⟩ := xz_O1 o ho e1
    exact ⟨(xz_tp (o + 1) (by omega)).trans q1, (xz_tp (o + 2) (by omega)).trans q2, (xz_tp (o + 3) (by omega)).trans q3, fun w hw => (xz_tp (o + 5 * w + 4) (by omega)).trans (q4 w hw), fun k hk => (xz_tp (o + 2 * k + 34) (by omega)).trans (q5 k hk)⟩
  · obtain ⟨o, ho, rfl, e1⟩ := xz_at e (by decide)
    have q := (xz_O2 o ho).1 e1
    exact ⟨(xz_tp (o + 1) (by omega)).trans q.1, (xz_tp (o + 3) (by omega)).trans q.2⟩
  · obtain ⟨o, ho, rfl, e1⟩ := xz_at e (by decide)
    exact (xz_tp (o + 1) (by omega)).trans ((xz_O2 o ho).2.1 e1)
  · obtain ⟨o, ho, rfl, e1⟩ := xz_at e (by decide)
    exact (xz_tp (o + 1) (by omega)).trans ((xz_O2 o ho).2.2.1 e1)
  · obtain ⟨o, ho, rfl, e1⟩ := xz_at e (by decide)
    have q := (xz_O2 o ho).2.2.2.1 e1
    exact ⟨(xz_tp (o + 1) (by omega)).trans q.1, fun i hi => (xz_tp (o + 82 * i + 2) (by omega)).trans (q.2 i hi)⟩
  · obtain ⟨o, ho, rfl, e1⟩ := xz_at e (by decide)
    exact (xz_tp (o + 1) (by omega)).trans ((xz_O2 o ho).2.2.2.2 e1)
  · obtain ⟨o, ho, rfl, e1⟩ := xz_at e (by decide)
    obtain ⟨q1, q2, q3, q4, q5, q6, q7⟩ := (xz_O3 o ho).1 e1
    exact ⟨(xz_tp (o + 1) (by omega)).trans q1, (xz_tp (o + 83) (by omega)).trans q2, (xz_tp (o + 165) (by omega)).trans q3, (xz_tp (o + 659) (by omega)).trans q4, fun i hi => (xz_tp (o + 82 * i + 660) (by omega)).trans (q5 i hi), (xz_tp (o + 824) (by omega)).trans q6, (xz_tp (o + 825) (by omega)).trans q7⟩
  · obtain ⟨o, ho, rfl, e1⟩ := xz_at e (by decide)
    exact absurd e1 (xz_O3 o ho).2
theorem xz_16 (h : Nat) : xz_t h h = 16 := (xz_tp 0 rfl).trans (by decide)
/-! TWO NEW OBJECTS, at h and h + 827 -/
def zw_t (h x : Nat) : Nat := if x < h + 827 then xz_t h x else xz_t (h + 827) x
def zw_M (h : Nat) : xm_T := fun x => if x < h + 827 then xd_m h x else xd_m (h + 827) x
theorem zw_1 {h x κ : Nat} (e : xz_t h x = κ) (hκ : κ ≠ 0) : zw_t h x = κ := by
  obtain ⟨o, ho, hx, -⟩ := xz_at e hκ
  unfold zw_t
  rw [if_pos (by omega)]
  exact e
theorem zw_2 {h x κ : Nat} (e : xz_t (h + 827) x = κ) (hκ : κ ≠ 0) : zw_t h x = κ := by
  obtain ⟨o, ho, hx, -⟩ := xz_at e hκ
  unfold zw_t
  rw [if_neg (by omega)]
  exact e
theorem zw_sp {h x κ : Nat} (e : zw_t h x = κ) : xz_t h x = κ ∨ xz_t (h + 827) x = κ := by
  unfold zw_t at e
  by_cases q : x < h + 827
  · rw [if_pos q] at e; exact Or.inl e
  · rw [if_neg q] at e; exact Or.inr e
theorem zw_D {G : va_G} {g : Nat → ClassId} {H : Heap} {h : Nat} (hB : xk_B G g h H) (hC : xk_B G g (h + 827) H) : xw_D G g (zw_t h) (zw_M h) H := fun x hx => by
  by_cases q : x < h + 827
  · have e1 : zw_t h x = xz_t h x := if_pos q
    have e2 : zw_M h x = xd_m h x := if_pos q
    rw [e1] at hx
    rw [e1, e2]
    exact xz_D hB x hx
  · have e1 : zw_t h x = xz_t (h + 827) x := if_neg q
    have e2 : zw_M h x = xd_m (h + 827) x := if_neg q
    rw [e1] at hx
    rw [e1, e2]
    exact xz_D hC x hx
theorem zw_O (h : Nat) : xk_O (zw_t h) (fun q => h ≤ q) := by
  have O1 := xz_O h
  have O2 := xz_O (h + 827)
  refine ⟨fun x hx => ?_, fun x e => ?_, fun x e => ?_, fun x e => ?_, fun x e => ?_, fun x e => ?_, fun x e => ?_, fun x e => ?_, fun x e => ?_⟩
  · rcases zw_sp (κ := zw_t h x) rfl with q | q
    · exact (O1.1 x (by rw [q]; exact hx)).1
    · have := (O2.1 x (by rw [q]; exact hx)).1
      show h ≤ x
      omega
  · rcases zw_sp e with q | q
    · obtain ⟨q1, q2, q3, q4, q5⟩ := O1.2.1 x q
      exact ⟨zw_1 q1 (by decide), zw_1 q2 (by decide), zw_1 q3 (by decide), fun w hw => zw_1 (q4 w hw) (by decide), fun k hk => zw_1 (q5 k hk) (by decide)⟩
    · obtain ⟨q1, q2, q3, q4, q5⟩ := O2.2.1 x q
      exact ⟨zw_2 q1 (by decide), zw_2 q2 (by decide), zw_2 q3 (by decide), fun w hw => zw_2 (q4 w hw) (by decide), fun k hk => zw_2 (q5 k hk) (by decide)⟩
  · rcases zw_sp e with q | q
    · exact ⟨zw_1 (O1.q q) (by decide), zw_1 (O1.r q) (by decide)⟩
    · exact ⟨zw_2 (O2.q q) (by decide), zw_2 (O2.r q) (by decide)⟩
  · rcases zw_sp e with q | q
    · exact zw_1 (O1.l q) (by decide)
    · exact zw_2 (O2.l q) (by decide)
  · rcases zw_sp e with q | q
    · exact zw_1 (O1.e q) (by decide)
    · exact zw_2 (O2.e q) (by decide)
  · rcases zw_sp e with q | q
    · exact ⟨zw_1 (O1.h1 q) (by decide), fun i hi => zw_1 (O1.hm q hi) (by decide)⟩
    · exact ⟨zw_2 (O2.h1 q) (by decide), fun i hi => zw_2 (O2.hm q hi) (by decide)⟩
  · rcases zw_sp e with q | q
    · exact zw_1 (O1.d q) (by decide)
    · exact zw_2 (O2.d q) (by decide)
  · rcases zw_sp e with q | q
    · exact ⟨zw_1 (O1.b1 q) (by decide), zw_1 (O1.b2 q) (by decide), zw_1 (O1.b3 q) (by decide), zw_1 (O1.b4 q) (by decide), fun i hi => zw_1 (O1.bs q hi) (by decide), zw_1 (O1.b5 q) (by decide), zw_1 (O1.b6 q) (by decide)⟩
    · exact ⟨zw_2 (O2.b1 q) (by decide), zw_2 (O2.b2 q) (by decide), zw_2 (O2.b3 q) (by decide), zw_2 (O2.b4 q) (by decide), fun i hi => zw_2 (O2.bs q hi) (by decide), zw_2 (O2.b5 q) (by decide), zw_2 (O2.b6 q) (by decide)⟩
  · rcases zw_sp e with q | q
    · obtain ⟨o, ho, rfl, e1⟩ := xz_at q (by decide)
      exact absurd e1 (xz_O3 o ho).2
    · obtain ⟨o, ho, rfl, e1⟩ := xz_at q (by decide)
      exact absurd e1 (xz_O3 o ho).2
theorem zw_16 (h : Nat) : zw_t h h = 16 := zw_1 (xz_16 h) (by decide)
theorem zw_16c (h : Nat) : zw_t h (h + 827) = 16 := zw_2 (xz_16 (h + 827)) (by decide)
theorem zd_N : ∀ k, k < 24 → xd_B (1 + 2 * k + 34) 0 = nI k ∧ xd_B (83 + 2 * k + 34) 0 = nI k ∧ (∀ i, i < 6 → xd_B (165 + 82 * i + 2 + 2 * k + 34) 0 = nI k) ∧ ∀ i, i < 2 → xd_B (82 * i + 660 + 2 * k + 34) 0 = nI k := by decide +kernel
theorem zd_P : ∀ k, k < 24 → xd_B (1 + 2 * k + 34) 2 = nI 0 ∧ xd_B (1 + 2 * k + 34) 3 = nI 4 ∧ xd_B (1 + 2 * k + 34) 4 = nI 0 ∧ xd_B (1 + 2 * k + 34) 5 = nI 0 ∧ xd_B (1 + 2 * k + 34) 7 = nI 0 ∧ xd_B (1 + 2 * k + 34) 9 = nI 0 ∧ xd_B (1 + 2 * k + 34) 10 = -6 := by decide +kernel
theorem zd_W : ∀ w, w < 6 → xd_B (1 + 5 * w + 4) 2 = nI 8 ∧ xd_B (1 + 5 * w + 4) 3 = nI 0 ∧ xd_B (1 + 5 * w + 4) 4 = nI 0 ∧ xd_B (1 + 5 * w + 5) 1 = nI 0 ∧ xd_B (1 + 5 * w + 7) 1 = nI 0 := by decide +kernel
theorem zd_A : xd_B 1 3 = nI 0 ∧ xd_B 1 4 = nI 0 ∧ xd_B 1 5 = nI 0 ∧ xd_B 1 6 = nI 0 ∧ xd_B 2 1 = nI 8 ∧ xd_B 165 1 = nI 0 ∧ xd_B 825 1 = nI 0 ∧ xd_B 824 0 = 0 ∧ xd_B 824 1 = 0 := by decide +kernel
theorem zd_zp {b : Nat} {M : xm_T} (T : ∀ {x : Nat} (o : Nat), o < 827 → x = b + o → M x = xd_B o) : zp b M :=
  ⟨fun k hk => ⟨by rw [T (1 + 2 * k + 34) (by omega) (by omega)]; exact (zd_N k hk).1, by rw [T (83 + 2 * k + 34) (by omega) (by omega)]; exact (zd_N k hk).2.1, fun i hi => by rw [T (165 + 82 * i + 2 + 2 * k + 34) (by omega) (by omega)]; exact (zd_N k hk).2.2.1 i hi, fun i hi => by rw [T (82 * i + 660 + 2 * k + 34) (by omega) (by omega)]; exact (zd_N k hk).2.2.2 i hi⟩, ⟨0, by omega, by rw [T 165 (by omega) rfl]; exact zd_A.2.2.2.2.2.1⟩, 0, by omega, by rw [T 825 (by omega) rfl]; exact zd_A.2.2.2.2.2.2.1⟩
theorem zd_zi {b : Nat} {M : xm_T} (T : ∀ {x : Nat} (o : Nat), o < 827 → x = b + o → M x = xd_B o) : zi (b + 1) M 0 0 0 20 := by
  have hP : ∀ k, k < 24 → M (b + 1 + 2 * k + 34) = xd_B (1 + 2 * k + 34) := fun k hk => T _ (by omega) (by omega)
  have hW : ∀ w, w < 6 → M (b + 1 + 5 * w + 4) = xd_B (1 + 5 * w + 4) := fun w hw => T _ (by omega) (by omega)
  have hA : M (b + 1) = xd_B 1 := T 1 (by omega) rfl
  obtain ⟨a3, a4, a5, a6, a7, -⟩ := zd_A
  refine ⟨⟨by omega, by rw [hA]; exact a3, by rw [hA]; exact a4, Nat.le_refl 0, 8, by omega, by rw [T 2 (by omega) (by omega)]; exact a7⟩, fun k hk => by rw [hP k hk]; exact (zd_N k hk).1, fun k _ hk => by rw [hP k hk]; exact zd_P k hk, fun k hk => absurd hk (Nat.not_lt_zero k), fun w hw => by rw [hW w hw]; exact ⟨8, 0, 0, by omega, by omega, Nat.le_refl 0, (zd_W w hw).1, (zd_W w hw).2.1, (zd_W w hw).2.2.1⟩, ⟨fun _ => [], fun _ => [], fun w hw => ⟨⟨Nat.zero_le 24, by rw [T (1 + 5 * w + 5) (by omega) (by omega)]; exact (zd_W w hw).2.2.2.1, fun j k hj => by cases hj⟩, ⟨Nat.zero_le 24, by rw [T (1 + 5 * w + 7) (by omega) (by omega)]; exact (zd_W w hw).2.2.2.2, fun j k hj => by cases hj⟩, List.nodup_nil, List.nodup_nil, fun k => ⟨fun z => absurd z List.not_mem_nil, fun z => absurd z.1 (Nat.not_lt_zero k)⟩, fun k => ⟨fun z => absurd z List.not_mem_nil, fun z => absurd z.1 (Nat.not_lt_zero k)⟩⟩⟩, ?_, ?_, ?_⟩
  · rw [zs_c (f := fun _ => nI 8) (g := fun w => M (b + 1 + 5 * w + 4) 2) (fun w hw => by rw [hW w hw]; exact (zd_W w hw).1), zs_c (f := fun _ => nI 0) (g := fun k => zm_h (M (b + 1 + 2 * k + 34) 5)) (fun k hk => by rw [hP k hk]; exact zh_0 (zd_P k hk).2.2.2.1), hA, a5, a6]
    decide +kernel
  · rw [zs_c (f := fun _ => nI 0) (g := fun w => M (b + 1 + 5 * w + 4) 4) (fun w hw => by rw [hW w hw]; exact (zd_W w hw).2.2.1), zs_c (f := fun _ => nI 0) (g := fun k => M (b + 1 + 2 * k + 34) 9) (fun k hk => by rw [hP k hk]; exact (zd_P k hk).2.2.2.2.2.1)]
    decide +kernel
  · rw [zs_c (f := fun _ => nI 0) (g := fun w => M (b + 1 + 5 * w + 4) 3) (fun w hw => by rw [hW w hw]; exact (zd_W w hw).2.1), zs_c (f := fun _ => nI 0) (g := fun k => M (b + 1 + 2 * k + 34) 9) (fun k hk => by rw [hP k hk]; exact (zd_P k hk).2.2.2.2.2.1), zs_c (f := fun _ => nI 0) (g := fun k => M (b + 1 + 2 * k + 34) 4) (fun k hk => by rw [hP k hk]; exact (zd_P k hk).2.2.1)]
    decide +kernel
theorem zw_T1 {h x : Nat} (o : Nat) (ho : o < 827) (hx : x = h + o) : zw_M h x = xd_B o := by
  have e : zw_M h x = xd_m h x := if_pos (by omega)
  rw [e]
  exact xd_tp o hx
theorem zw_T2 {h x : Nat} (o : Nat) (hx : x = h + 827 + o) : zw_M h x = xd_B o := by
  have e : zw_M h x = xd_m (h + 827) x := if_neg (by omega)
  rw [e]
  exact xd_tp o hx
theorem zL_0 (h : Nat) : zL h (h + 827) 0 (zw_M h) := by
  refine ⟨zd_zp (fun o ho hx => zw_T1 o ho hx), zd_zp (fun o _ hx => zw_T2 o hx), ⟨0, 0, by omega, zd_zi (fun o ho hx => zw_T1 o ho hx)⟩, fun c hc => ?_, fun i hi => ⟨?_, fun q => absurd ?_ q⟩⟩
  · rw [zw_T1 (1 + c) (by omega) (by omega), zw_T2 (1 + c) (by omega)]
  · rw [zw_T1 824 (by omega) rfl, zw_T2 824 rfl]
  · rw [zw_T1 824 (by omega) rfl]
    rcases (show i = 0 ∨ i = 1 by omega) with q | q <;> subst q
    · exact zd_A.2.2.2.2.2.2.2.1
    · exact zd_A.2.2.2.2.2.2.2.2

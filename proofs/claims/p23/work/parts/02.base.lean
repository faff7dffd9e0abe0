/-! THE WORLD OF THIS CLAIM: an address has a kind (τ), each cell its ints (M: address, slot, number); references follow from the layout: a ministry at a has its cells at a .. a + 81, an object of HalfTickets at b at b .. b + 826. -/
abbrev xm_T : Type := Nat → Nat → Int32
def xr_up (M : xm_T) (a : Nat) (f : Nat → Int32) : xm_T := fun y => if y = a then f else M y
def xu_p (M : xm_T) (a k : Nat) (v : Int32) : xm_T := xr_up M a (upd (M a) k v)
theorem xr_s (M : xm_T) (a : Nat) (f : Nat → Int32) : xr_up M a f a = f := if_pos rfl
theorem xr_n (M : xm_T) {a y : Nat} (f : Nat → Int32) (h : y ≠ a) : xr_up M a f y = M y := if_neg h
theorem xu_s (M : xm_T) (a k : Nat) (v : Int32) : xu_p M a k v a k = v := by unfold xu_p; rw [xr_s]; exact if_pos rfl
theorem xu_n {M : xm_T} {a k x j : Nat} (v : Int32) (h : x ≠ a ∨ j ≠ k) : xu_p M a k v x j = M x j := by
  unfold xu_p
  by_cases hx : x = a
  · subst hx
    rw [xr_s]
    exact if_neg (by rcases h with h | h; exact absurd rfl h; exact h)
  · rw [xr_n _ _ hx]
def xb_01 (v : Int32) : Prop := v = 0 ∨ v = 1
/-- what stands in a cell of a kind, with the ints r, at the address x -/
def xw_cell (g : Nat → ClassId) (κ : Nat) (r : Nat → Int32) (x : Nat) : va_E := match κ with
  | 1 => .inr (2, [.ref (x + 1), .ref (x + 2), .ref (x + 3), .int (r 3), .int (r 4), .int (r 5), .int (r 6)])
  | 3 => .inl (g 3, 6, .inr (.inr (.inr (.inr (fun w => some (x + 5 * w + 2))))))
  | 4 => .inl (g 4, 24, .inr (.inr (.inr (.inr (fun k => some (x + 2 * k + 31))))))
  | 5 => .inr (5, [.int (r 0), .int (r 1), .int (r 2), .int (r 3), .int (r 4), .ref (x + 1), .ref (x + 3)])
  | 6 => .inr (1, [.ref (x + 1), .int (r 1)])
  | 8 => .inr (4, [.int (r 0), .ref (x + 1), .int (r 2), .int (r 3), .int (r 4), .int (r 5), .int (r 6), .int (r 7), .int (r 8), .int (r 9), .int (r 10), .int (r 11)])
  | 10 => .inr (0, [.ref (x + 1), .int (r 1), .int (r 2)])
  | 11 => .inl (g 5, 6, .inr (.inr (.inr (.inr (fun i => some (x + 82 * i + 1))))))
  | 12 => .inl (g 5, 2, .inr (.inr (.inr (.inr (fun i => some (x + 82 * i + 1))))))
  | 13 => .inl (g 1, 2, .inl r)
  | 14 => .inr (3, [.ref (x + 1), .int (r 1)])
  | 15 => .inl (g 2, 60, .inl r)
  | 16 => .inr (6, [.ref (x + 1), .ref (x + 83), .ref (x + 165), .ref (x + 659), .ref (x + 824), .ref (x + 825)])
  | 20 => .inr (7, [.ref (x + 1), .ref (x + 2), .ref (x + 3), .int (r 3), .ref (x + 4), .ref (x + 5), .ref (x + 6), .ref (x + 7), .int (r 8), .ref (x + 8), .ref (x + 9), .int (r 11)])
  | κ => .inl (g 0, κ - 100, .inl r)
/-- booleans are 0 or 1 -/
def xw_ok (κ : Nat) (r : Nat → Int32) : Prop := match κ with
  | 5 => xb_01 (r 0)
  | 8 => xb_01 (r 5) ∧ xb_01 (r 11)
  | 13 => xb_01 (r 0) ∧ xb_01 (r 1)
  | _ => True
def xw_D (G : va_G) (g : Nat → ClassId) (τ : Nat → Nat) (M : xm_T) (H : Heap) : Prop := ∀ x, τ x ≠ 0 → va_at G vwCl (x, xw_cell g (τ x) (M x) x) H ∧ xw_ok (τ x) (M x)
def xw_tys (g : Nat → ClassId) : List (ClassId × FieldType) := [(g 0, .int), (g 1, .boolean), (g 2, .char), (g 3, .object RX5), (g 4, .object RX4), (g 5, .object RX2)]
/-- the static arrays -/
def xs_0 : Nat → Int32 := fun j => if j = 0 then 2 else if j = 1 then 8 else 0
def xs_1 : Nat → Int32 := fun j => if j = 0 then 1 else 0
def xs_2 : Nat → Int32 := fun j => if j = 0 then 6 else if j = 1 then 20 else 60
def xs_C (t : Nat) (A : Nat → Prop) (U : State) (H : Heap) : Prop := ∃ cell : Cell, H[t]? = some cell ∧ cell.slots.size = 3 ∧ cell.vm ≠ .unknown ∧ (∀ k, cell.vm ≠ .statics k) ∧ U.vm.findClass "[I" = some cell.cls ∧ (∀ j : Nat, j < 3 → cell.slots[j]? = some (.int (xs_0 j))) ∧ ¬ A t
def xw_st (t0 : Nat → Nat) (A : Nat → Prop) (U : State) (H : Heap) : Prop :=
  (va_Z RX6 "FIRST_SETTING" "[I" (.ref (t0 0)) A U H ∧ va_T .int (t0 0) 3 (fun j => .int (xs_0 j)) A U H) ∧
  (va_Z RX6 "LOWEST_SETTING" "[I" (.ref (t0 1)) A U H ∧ va_T .int (t0 1) 3 (fun j => .int (xs_1 j)) A U H) ∧
  (va_Z RX6 "HIGHEST_SETTING" "[I" (.ref (t0 2)) A U H ∧ va_T .int (t0 2) 3 (fun j => .int (xs_2 j)) A U H) ∧
  xs_C (t0 0) A U H
theorem xs_C.moved {t : Nat} {A : Nat → Prop} {u U : State} {H : Heap} (h : xs_C t A u H) (hvm : u.vm.Alike U.vm) : xs_C t A U H := by
  obtain ⟨cell, h1, h2, h3, h4, h5, h6⟩ := h
  exact ⟨cell, h1, h2, h3, h4, by rw [hvm.findClass]; exact h5, h6⟩
theorem xs_C.kept {t : Nat} {A : Nat → Prop} {U : State} {H H1 : Heap} (h : xs_C t A U H) (hq : ∀ a : Nat, a < H.size → ¬ A a → H1[a]? = H[a]?) : xs_C t A U H1 := by
  obtain ⟨cell, h1, h2, h3, h4, h5, h6, h7⟩ := h
  exact ⟨cell, by rw [hq t (Array.getElem?_eq_some_iff.mp h1).1 h7]; exact h1, h2, h3, h4, h5, h6, h7⟩
theorem xs_C.narrow {t : Nat} {A B : Nat → Prop} {U : State} {H : Heap} (h : xs_C t A U H) (hAB : ∀ q, B q → A q) : xs_C t B U H := by
  obtain ⟨cell, h1, h2, h3, h4, h5, h6, h7⟩ := h
  exact ⟨cell, h1, h2, h3, h4, h5, h6, fun z => h7 (hAB t z)⟩
/-- what the tables say across the nest, and of arrays -/
def xw_nw (g : Nat → ClassId) (U : State) : Prop :=
  va_Nw (.fieldLinkNest RX2 9 RX6 "FIRST_SETTING" "[I" RX6) U ∧ va_Nw (.castable "[I" "java/lang/Cloneable") U ∧
  va_Nw (.methodLinkNest RX5 19 yX1_init RX6) U ∧ va_Nw (.methodLinkNest RX6 36 yX3_init RX6) U ∧
  va_AO RX2 U ∧ va_AO RX4 U ∧ va_AO RX5 U ∧ U.vm.findClass "[I" = some (g 0)
theorem xw_nw.warm {g : Nat → ClassId} {s U : State} (h : xw_nw g s) (hW : s.WarmedH U.vm) : xw_nw g U :=
  ⟨va_Nw.warmF hW h.1, va_Nw.warmC hW h.2.1, va_Nw.warmM hW h.2.2.1, va_Nw.warmM hW h.2.2.2.1, h.2.2.2.2.1.moved hW.alike, h.2.2.2.2.2.1.moved hW.alike, h.2.2.2.2.2.2.1.moved hW.alike, by rw [hW.alike.findClass]; exact h.2.2.2.2.2.2.2⟩
theorem xw_nw.call {g : Nat → ClassId} {U : State} {f : JFrame} {mk : MethodId} {a : Array Value} (h : xw_nw g U) : xw_nw g (U.calling f mk a) :=
  ⟨va_Nw.same rfl rfl h.1, va_Nw.same rfl rfl h.2.1, va_Nw.same rfl rfl h.2.2.1, va_Nw.same rfl rfl h.2.2.2.1, h.2.2.2.2.1.moved (Vm.Alike.refl U.vm), h.2.2.2.2.2.1.moved (Vm.Alike.refl U.vm), h.2.2.2.2.2.2.1.moved (Vm.Alike.refl U.vm), h.2.2.2.2.2.2.2⟩
theorem xw_st.moved {t0 : Nat → Nat} {A : Nat → Prop} {u U : State} {H : Heap} (h : xw_st t0 A u H) (hvm : u.vm.Alike U.vm) : xw_st t0 A U H :=
  ⟨⟨va_Z.moved hvm h.1.1, va_T.moved hvm h.1.2⟩, ⟨va_Z.moved hvm h.2.1.1, va_T.moved hvm h.2.1.2⟩, ⟨va_Z.moved hvm h.2.2.1.1, va_T.moved hvm h.2.2.1.2⟩, h.2.2.2.moved hvm⟩
theorem xw_st.kept {t0 : Nat → Nat} {A : Nat → Prop} {U : State} {H H1 : Heap} (h : xw_st t0 A U H) (hq : ∀ a : Nat, a < H.size → ¬ A a → H1[a]? = H[a]?) : xw_st t0 A U H1 :=
  ⟨⟨h.1.1.kept hq, h.1.2.kept hq⟩, ⟨h.2.1.1.kept hq, h.2.1.2.kept hq⟩, ⟨h.2.2.1.1.kept hq, h.2.2.1.2.kept hq⟩, h.2.2.2.kept hq⟩
theorem xw_st.narrow {t0 : Nat → Nat} {A B : Nat → Prop} {U : State} {H : Heap} (h : xw_st t0 A U H) (hAB : ∀ q, B q → A q) : xw_st t0 B U H :=
  ⟨⟨h.1.1.narrow hAB, h.1.2.narrow hAB⟩, ⟨h.2.1.1.narrow hAB, h.2.1.2.narrow hAB⟩, ⟨h.2.2.1.1.narrow hAB, h.2.2.1.2.narrow hAB⟩, h.2.2.2.narrow hAB⟩
/-- what holds at a method's start -/
def xS_t (G : va_G) (g : Nat → ClassId) (t0 τ : Nat → Nat) (A : Nat → Prop) (M : xm_T) (U : State) : Prop :=
  xw_D G g τ M U.heap ∧ va_K G vwCl (xw_tys g) U ∧ xw_st t0 A U U.heap ∧ xw_nw g U
theorem xS_mk {G : va_G} {g : Nat → ClassId} {t0 τ : Nat → Nat} {A : Nat → Prop} {M : xm_T} {s U : State} {H : Heap} {locs : List Loc} (hK : va_K G vwCl (xw_tys g) s) (hst : xw_st t0 A s s.heap) (hnw : xw_nw g s) (hS : va_S A s.heap H locs) (hW : xw_D G g τ M H) (hU : U.heap = H) (hWm : s.WarmedH U.vm) : xS_t G g t0 τ A M U :=
  ⟨by rw [hU]; exact hW, va_K.moved hWm.alike hK, (hst.moved hWm.alike).kept (fun a h1 h2 => by rw [hU]; exact hS.2.1 a h1 h2), hnw.warm hWm⟩
theorem xS_call {G : va_G} {g : Nat → ClassId} {t0 τ : Nat → Nat} {A : Nat → Prop} {M : xm_T} {U : State} {f : JFrame} {mk : MethodId} {a : Array Value} (h : xS_t G g t0 τ A M U) : xS_t G g t0 τ A M (U.calling f mk a) :=
  ⟨h.1, va_K.moved (u := U) (U := U.calling f mk a) (Vm.Alike.refl U.vm) h.2.1, h.2.2.1.moved (u := U) (U := U.calling f mk a) (Vm.Alike.refl U.vm), h.2.2.2.call⟩
theorem xS_blind {G : va_G} {g : Nat → ClassId} {t0 τ : Nat → Nat} {A : Nat → Prop} {M : xm_T} (av : List Value) : FrameBlind (va_Pc av (xS_t G g t0 τ A M)) := fun _ _ _ _ h => ⟨h.1, xS_call h.2⟩
/-- the kinds of the cells that a cell refers to -/
def xk_O (τ : Nat → Nat) (A : Nat → Prop) : Prop :=
  (∀ x, τ x ≠ 0 → A x) ∧
  (∀ x, τ x = 1 → τ (x + 1) = 103 ∧ τ (x + 2) = 3 ∧ τ (x + 3) = 4 ∧ (∀ w, w < 6 → τ (x + 5 * w + 4) = 5) ∧ ∀ k, k < 24 → τ (x + 2 * k + 34) = 8) ∧
  (∀ x, τ x = 5 → τ (x + 1) = 6 ∧ τ (x + 3) = 6) ∧
  (∀ x, τ x = 6 → τ (x + 1) = 124) ∧
  (∀ x, τ x = 8 → τ (x + 1) = 108) ∧
  (∀ x, τ x = 10 → τ (x + 1) = 11 ∧ ∀ i, i < 6 → τ (x + 82 * i + 2) = 1) ∧
  (∀ x, τ x = 14 → τ (x + 1) = 15) ∧
  (∀ x, τ x = 16 → τ (x + 1) = 1 ∧ τ (x + 83) = 1 ∧ τ (x + 165) = 10 ∧ τ (x + 659) = 12 ∧ (∀ i, i < 2 → τ (x + 82 * i + 660) = 1) ∧ τ (x + 824) = 13 ∧ τ (x + 825) = 14) ∧
  (∀ x, τ x = 20 → τ (x + 1) = 426 ∧ τ (x + 2) = 426 ∧ τ (x + 3) = 2056 ∧ τ (x + 4) = 752 ∧ τ (x + 5) = 102 ∧ τ (x + 6) = 124 ∧ τ (x + 7) = 160 ∧ τ (x + 8) = 130 ∧ τ (x + 9) = 130)
theorem xk_O.a {τ : Nat → Nat} {A : Nat → Prop} (O : xk_O τ A) {x κ : Nat} (h : τ x = κ) (hκ : κ ≠ 0) : A x := O.1 x (by rw [h]; exact hκ)
theorem xk_O.m1 {τ : Nat → Nat} {A : Nat → Prop} (O : xk_O τ A) {x : Nat} (h : τ x = 1) : τ (x + 1) = 103 := (O.2.1 x h).1
theorem xk_O.m2 {τ : Nat → Nat} {A : Nat → Prop} (O : xk_O τ A) {x : Nat} (h : τ x = 1) : τ (x + 2) = 3 := (O.2.1 x h).2.1
theorem xk_O.m3 {τ : Nat → Nat} {A : Nat → Prop} (O : xk_O τ A) {x : Nat} (h : τ x = 1) : τ (x + 3) = 4 := (O.2.1 x h).2.2.1
theorem xk_O.w {τ : Nat → Nat} {A : Nat → Prop} (O : xk_O τ A) {x w : Nat} (h : τ x = 1) (hw : w < 6) : τ (x + 5 * w + 4) = 5 := (O.2.1 x h).2.2.2.1 w hw
theorem xk_O.p {τ : Nat → Nat} {A : Nat → Prop} (O : xk_O τ A) {x k : Nat} (h : τ x = 1) (hk : k < 24) : τ (x + 2 * k + 34) = 8 := (O.2.1 x h).2.2.2.2 k hk
theorem xk_O.q {τ : Nat → Nat} {A : Nat → Prop} (O : xk_O τ A) {x : Nat} (h : τ x = 5) : τ (x + 1) = 6 := (O.2.2.1 x h).1
theorem xk_O.r {τ : Nat → Nat} {A : Nat → Prop} (O : xk_O τ A) {x : Nat} (h : τ x = 5) : τ (x + 3) = 6 := (O.2.2.1 x h).2
theorem xk_O.l {τ : Nat → Nat} {A : Nat → Prop} (O : xk_O τ A) {x : Nat} (h : τ x = 6) : τ (x + 1) = 124 := O.2.2.2.1 x h
theorem xk_O.e {τ : Nat → Nat} {A : Nat → Prop} (O : xk_O τ A) {x : Nat} (h : τ x = 8) : τ (x + 1) = 108 := O.2.2.2.2.1 x h
theorem xk_O.h1 {τ : Nat → Nat} {A : Nat → Prop} (O : xk_O τ A) {x : Nat} (h : τ x = 10) : τ (x + 1) = 11 := (O.2.2.2.2.2.1 x h).1
theorem xk_O.hm {τ : Nat → Nat} {A : Nat → Prop} (O : xk_O τ A) {x i : Nat} (h : τ x = 10) (hi : i < 6) : τ (x + 82 * i + 2) = 1 := (O.2.2.2.2.2.1 x h).2 i hi
theorem xk_O.d {τ : Nat → Nat} {A : Nat → Prop} (O : xk_O τ A) {x : Nat} (h : τ x = 14) : τ (x + 1) = 15 := O.2.2.2.2.2.2.1 x h
theorem xk_O.b1 {τ : Nat → Nat} {A : Nat → Prop} (O : xk_O τ A) {x : Nat} (h : τ x = 16) : τ (x + 1) = 1 := (O.2.2.2.2.2.2.2.1 x h).1
theorem xk_O.b2 {τ : Nat → Nat} {A : Nat → Prop} (O : xk_O τ A) {x : Nat} (h : τ x = 16) : τ (x + 83) = 1 := (O.2.2.2.2.2.2.2.1 x h).2.1
theorem xk_O.b3 {τ : Nat → Nat} {A : Nat → Prop} (O : xk_O τ A) {x : Nat} (h : τ x = 16) : τ (x + 165) = 10 := (O.2.2.2.2.2.2.2.1 x h).2.2.1
theorem xk_O.b4 {τ : Nat → Nat} {A : Nat → Prop} (O : xk_O τ A) {x : Nat} (h : τ x = 16) : τ (x + 659) = 12 := (O.2.2.2.2.2.2.2.1 x h).2.2.2.1
theorem xk_O.bs {τ : Nat → Nat} {A : Nat → Prop} (O : xk_O τ A) {x i : Nat} (h : τ x = 16) (hi : i < 2) : τ (x + 82 * i + 660) = 1 := (O.2.2.2.2.2.2.2.1 x h).2.2.2.2.1 i hi
theorem xk_O.b5 {τ : Nat → Nat} {A : Nat → Prop} (O : xk_O τ A) {x : Nat} (h : τ x = 16) : τ (x + 824) = 13 := (O.2.2.2.2.2.2.2.1 x h).2.2.2.2.2.1
theorem xk_O.b6 {τ : Nat → Nat} {A : Nat → Prop} (O : xk_O τ A) {x : Nat} (h : τ x = 16) : τ (x + 825) = 14 := (O.2.2.2.2.2.2.2.1 x h).2.2.2.2.2.2
theorem xk_O.n {τ : Nat → Nat} {A : Nat → Prop} (O : xk_O τ A) {x : Nat} (h : τ x = 20) : τ (x + 1) = 426 ∧ τ (x + 2) = 426 ∧ τ (x + 3) = 2056 ∧ τ (x + 4) = 752 ∧ τ (x + 5) = 102 ∧ τ (x + 6) = 124 ∧ τ (x + 7) = 160 ∧ τ (x + 8) = 130 ∧ τ (x + 9) = 130 := O.2.2.2.2.2.2.2.2 x h
theorem xk_O.n1 {τ : Nat → Nat} {A : Nat → Prop} (O : xk_O τ A) {x : Nat} (h : τ x = 20) : τ (x + 1) = 426 := (O.n h).1
theorem xk_O.n2 {τ : Nat → Nat} {A : Nat → Prop} (O : xk_O τ A) {x : Nat} (h : τ x = 20) : τ (x + 2) = 426 := (O.n h).2.1
theorem xk_O.n3 {τ : Nat → Nat} {A : Nat → Prop} (O : xk_O τ A) {x : Nat} (h : τ x = 20) : τ (x + 3) = 2056 := (O.n h).2.2.1
theorem xk_O.n4 {τ : Nat → Nat} {A : Nat → Prop} (O : xk_O τ A) {x : Nat} (h : τ x = 20) : τ (x + 4) = 752 := (O.n h).2.2.2.1
theorem xk_O.n5 {τ : Nat → Nat} {A : Nat → Prop} (O : xk_O τ A) {x : Nat} (h : τ x = 20) : τ (x + 5) = 102 := (O.n h).2.2.2.2.1
theorem xk_O.n6 {τ : Nat → Nat} {A : Nat → Prop} (O : xk_O τ A) {x : Nat} (h : τ x = 20) : τ (x + 6) = 124 := (O.n h).2.2.2.2.2.1
theorem xk_O.n7 {τ : Nat → Nat} {A : Nat → Prop} (O : xk_O τ A) {x : Nat} (h : τ x = 20) : τ (x + 7) = 160 := (O.n h).2.2.2.2.2.2.1
theorem xk_O.n8 {τ : Nat → Nat} {A : Nat → Prop} (O : xk_O τ A) {x : Nat} (h : τ x = 20) : τ (x + 8) = 130 := (O.n h).2.2.2.2.2.2.2.1
theorem xk_O.n9 {τ : Nat → Nat} {A : Nat → Prop} (O : xk_O τ A) {x : Nat} (h : τ x = 20) : τ (x + 9) = 130 := (O.n h).2.2.2.2.2.2.2.2
theorem xb_nar {v : Int32} (h : xb_01 v) : narrow .boolean (.int v) = .int v := by rcases h with rfl | rfl <;> rfl
theorem xb_fit {v : Int32} (h : xb_01 v) : fits .boolean (.int v) = true := by rcases h with rfl | rfl <;> rfl
theorem xb_0 : xb_01 (nI 0) := Or.inl rfl
theorem xb_1 : xb_01 (nI 1) := Or.inr rfl
theorem xw_okp {G : va_G} {g : Nat → ClassId} {τ : Nat → Nat} {M : xm_T} {H : Heap} {a κ : Nat} (hW : xw_D G g τ M H) (hτ : τ a = κ) (hκ : κ ≠ 0) : xw_ok κ (M a) := by
  subst hτ
  exact (hW a hκ).2
/-- the world as the kit's list, and back -/
theorem xw_list {G : va_G} {g : Nat → ClassId} {τ : Nat → Nat} {M : xm_T} {H : Heap} {A : Nat → Prop} (hW : xw_D G g τ M H) (hA : ∀ x, τ x ≠ 0 → A x) : ∃ ws : va_W, va_P G vwCl ws H ∧ va_D A ws ∧ (∀ x, τ x ≠ 0 → ∃ k : Nat, ws[k]? = some (x, xw_cell g (τ x) (M x) x)) ∧ ∀ (k : Nat) (q : Nat × va_E), ws[k]? = some q → τ q.1 ≠ 0 ∧ q.2 = xw_cell g (τ q.1) (M q.1) q.1 := by
  have hN : ((List.range H.size).filter (fun x => decide (τ x ≠ 0))).Nodup := List.Pairwise.filter _ List.nodup_range
  have key : ∀ (k : Nat) (q : Nat × va_E), (((List.range H.size).filter (fun x => decide (τ x ≠ 0))).map (fun x => (x, xw_cell g (τ x) (M x) x)))[k]? = some q → ((List.range H.size).filter (fun x => decide (τ x ≠ 0)))[k]? = some q.1 ∧ τ q.1 ≠ 0 ∧ q.2 = xw_cell g (τ q.1) (M q.1) q.1 := by
    intro k q hk
    rw [List.getElem?_map] at hk
    cases hx : ((List.range H.size).filter (fun x => decide (τ x ≠ 0)))[k]? with
    | none => rw [hx] at hk; cases hk
    | some x =>
      rw [hx] at hk
      cases hk
      exact ⟨rfl, of_decide_eq_true (List.mem_filter.mp (List.mem_of_getElem? hx)).2, rfl⟩
  refine ⟨((List.range H.size).filter (fun x => decide (τ x ≠ 0))).map (fun x => (x, xw_cell g (τ x) (M x) x)), fun k q hk => ?_, ⟨fun i j p q hi hj hpq => ?_, fun k q hk => hA _ (key k q hk).2.1⟩, fun x hx => ?_, fun k q hk => (key k q hk).2⟩
  · obtain ⟨-, h1, h2⟩ := key k q hk
    have h3 := (hW q.1 h1).1
    rw [← h2] at h3
    exact h3
  · have h1 := (key i p hi).1
    have h2 := (key j q hj).1
    rw [← hpq] at h2
    obtain ⟨g1, e1⟩ := List.getElem?_eq_some_iff.mp h1
    obtain ⟨g2, e2⟩ := List.getElem?_eq_some_iff.mp h2
    have hpw := List.pairwise_iff_getElem.mp hN
    rcases Nat.lt_trichotomy i j with q1 | q1 | q1
    · exact absurd (e1.trans e2.symm) (hpw i j g1 g2 q1)
    · exact q1
    · exact absurd (e2.trans e1.symm) (hpw j i g2 g1 q1)
  · have hl : x < H.size := ((hW x hx).1).lt
    obtain ⟨k, hk⟩ := List.getElem?_of_mem (List.mem_filter.mpr ⟨List.mem_range.mpr hl, decide_eq_true hx⟩ : x ∈ (List.range H.size).filter (fun x => decide (τ x ≠ 0)))
    exact ⟨k, by rw [List.getElem?_map, hk]; rfl⟩
theorem xw_back {G : va_G} {g : Nat → ClassId} {τ : Nat → Nat} {M : xm_T} {H1 : Heap} {A : Nat → Prop} {ws : va_W} {k a : Nat} {e e' : va_E} {f : Nat → Int32} (hD : va_D A ws) (hall : ∀ x, τ x ≠ 0 → ∃ k : Nat, ws[k]? = some (x, xw_cell g (τ x) (M x) x)) (hokM : ∀ x, τ x ≠ 0 → xw_ok (τ x) (M x)) (hk : ws[k]? = some (a, e)) (hP : va_P G vwCl (ws.set k (a, e')) H1) (he : va_at G vwCl (a, e') H1 → va_at G vwCl (a, xw_cell g (τ a) f a) H1) (hok : xw_ok (τ a) f) : xw_D G g τ (xr_up M a f) H1 := by
  intro x hx
  by_cases hxa : x = a
  · subst hxa
    rw [xr_s]
    exact ⟨he (hP k _ (List.getElem?_set_self (List.getElem?_eq_some_iff.mp hk).1)), hok⟩
  · rw [xr_n _ _ hxa]
    obtain ⟨j, hj⟩ := hall x hx
    have hjk : k ≠ j := fun z => by
      subst z
      rw [hk] at hj
      cases hj
      exact hxa rfl
    exact ⟨hP j (x, xw_cell g (τ x) (M x) x) (by rw [List.getElem?_set_ne hjk]; exact hj), hokM x hx⟩
theorem xw_P1 {G : va_G} {a : Nat} {e : va_E} {H : Heap} (h : va_at G vwCl (a, e) H) : va_P G vwCl [(a, e)] H := fun k q hk => by
  have hz : k < 1 := (List.getElem?_eq_some_iff.mp hk).1
  rw [show k = 0 by omega] at hk
  cases hk
  exact h
theorem xw_at {G : va_G} {g : Nat → ClassId} {τ : Nat → Nat} {M : xm_T} {H : Heap} (hW : xw_D G g τ M H) {a κ : Nat} {e : va_E} (hτ : τ a = κ) (hκ : κ ≠ 0) (hc : xw_cell g κ (M a) a = e) : va_at G vwCl (a, e) H := by
  subst hτ
  subst hc
  exact (hW a hκ).1
theorem xw_end {G : va_G} {g : Nat → ClassId} {τ : Nat → Nat} {M : xm_T} {H : Heap} {t : State} (ht : t.heap = H) (hW : xw_D G g τ M H) : xw_D G g τ M t.heap := by rw [ht]; exact hW
theorem xi_in {i : Int32} {k n : Nat} (hi : i = nI k) (hk : k < n) (hn : n < 2 ^ 31) : vp_in i n := by subst hi; exact nI_in hk hn
theorem xi_cl {i : Int32} {k n : Nat} (hi : i = nI k) (hk : k < n) (hn : n < 2 ^ 31) : i.toNatClampNeg = k := by subst hi; exact nI_clamp (by omega)
section XR
variable {p : Program} {l : Launch} {e : Env} {R : Room} {s : State} {m : MethodId} {args : Array Value} {below : List Frame} {meth : Method} {c : Code} {H : Heap} {locs : List Loc} {cells slots : Nat} {Q : State → Prop}
variable {cc : ByteArray} {pc : Nat} {ls : Array Slot} {rest : List Value} {G : va_G} {g : Nat → ClassId} {t0 τ : Nat → Nat} {A : Nat → Prop} {M : xm_T} {a κ : Nat} {H0 : Heap}
theorem xg_get (hexec : p.tables.exec = Jvm.exec) (hb : c.code = cc) {own ref C : String} {T : u_T} {N ci index : Nat} {Ts : List Cond} (hts : ∀ w ∈ Ts, w.before args s = true) (hin : ∀ w ∈ u_ws C T N, w ∈ Ts) (hown : s.vm.findClass own = some m.cls) (hK : va_K G vwCl (xw_tys g) s) (hW : xw_D G g τ M H) (hτ : τ a = κ) (hκ : κ ≠ 0) {fs : List Value} (hcell : xw_cell g κ (M a) a = .inr (ci, fs)) (hc : vwCl[ci]? = some (C, T, N)) (k : Nat) (hk : k < N) (hlink : (Cond.fieldLink own index ref (T k).2.1 (T k).2.2.1).before args s = true) (hsame : ∀ x, s.fieldFound? (T k).1 (T k).2.1 (T k).2.2.1 = some x → s.fieldFound? ref (T k).2.1 (T k).2.2.1 = some x) {v : Value} (hv : fs[k]? = some v) (hdg : decode cc pc = .ok (.getfield index, 3))
    (kk : W p l e R s m args below meth c H locs cells slots Q (F0 m (pc + 3) ls (v :: rest))) : W p l e R s m args below meth c H locs cells slots Q (F0 m pc ls (.ref a :: rest)) :=
  va_get hexec hb hts hin hown hK (xw_P1 (xw_at hW hτ hκ hcell)) 0 rfl hc k hk hlink hsame hv hdg kk
theorem xg_put (hexec : p.tables.exec = Jvm.exec) (hb : c.code = cc) {own ref C : String} {T : u_T} {N ci index : Nat} {Ts : List Cond} (hts : ∀ w ∈ Ts, w.before args s = true) (hin : ∀ w ∈ u_ws C T N, w ∈ Ts) (ty0 : Nat → FieldType) (hty : ∀ k, k < N → parseFieldDescriptor (T k).2.2.1 = some (ty0 k)) (hnm : ∀ a, a < N → ∀ b, b < N → a ≠ b → (T a).2.1 ≠ (T b).2.1) (hown : s.vm.findClass own = some m.cls) (hK : va_K G vwCl (xw_tys g) s) (O : xk_O τ A) (hW : xw_D G g τ M H) (hS0 : va_S A H0 H locs) (hτ : τ a = κ) (hκ : κ ≠ 0) {fs : List Value} (hcell : xw_cell g κ (M a) a = .inr (ci, fs)) (hc : vwCl[ci]? = some (C, T, N)) (k : Nat) (hk : k < N) {v : Int32} (hset : xw_cell g κ (upd (M a) k v) a = .inr (ci, fs.set k (.int v))) (hok : xw_ok κ (upd (M a) k v)) (hlink : (Cond.fieldLink own index ref (T k).2.1 (T k).2.2.1).before args s = true) (hsame : ∀ x, s.fieldFound? (T k).1 (T k).2.1 (T k).2.2.1 = some x → s.fieldFound? ref (T k).2.1 (T k).2.2.1 = some x) (hfin : (T k).2.2.2 = false) {ty : FieldType} (hd : parseFieldDescriptor (T k).2.2.1 = some ty) (hn : narrow ty (.int v) = .int v) (hfit : fits ty (.int v) = true) (hl : k < fs.length)
    (hdg : decode cc pc = .ok (.putfield index, 3)) (kk : ∀ (H1 : Heap) (locs1 : List Loc), xw_D G g τ (xu_p M a k v) H1 → va_S A H0 H1 locs1 → W p l e R s m args below meth c H1 locs1 cells slots Q (F0 m (pc + 3) ls rest)) : W p l e R s m args below meth c H locs cells slots Q (F0 m pc ls (.int v :: .ref a :: rest)) := by
  obtain ⟨ws, hP, hD, hall, -⟩ := xw_list hW O.1
  obtain ⟨q0, hq⟩ := hall a (by rw [hτ]; exact hκ)
  have hq' : ws[q0]? = some (a, .inr (ci, fs)) := by rw [hq, hτ, hcell]
  refine va_put hexec hb hts hin ty0 hty hnm hown hK hP hD hS0 q0 hq' hc k hk hlink hsame hfin hd hn hfit hl hdg (fun H1 locs1 hP1 _ hS1 => kk H1 locs1 ?_ hS1)
  exact xw_back hD hall (fun x hx => (hW x hx).2) hq' hP1 (fun h => by rw [hτ, hset]; exact h) (by rw [hτ]; exact hok)
theorem xg_iald (hexec : p.tables.exec = Jvm.exec) (hb : c.code = cc) (hK : va_K G vwCl (xw_tys g) s) (hW : xw_D G g τ M H) {n : Nat} (hτ : τ a = κ) (hκ : κ ≠ 0) (hcell : xw_cell g κ (M a) a = .inl (g 0, n, .inl (M a))) {i : Int32} (k : Nat) (hi : i = nI k) (hk : k < n) (hn : n < 2 ^ 31) (hdg : decode cc pc = .ok (.iaload, 1))
    (kk : W p l e R s m args below meth c H locs cells slots Q (F0 m (pc + 1) ls (.int (M a k) :: rest))) : W p l e R s m args below meth c H locs cells slots Q (F0 m pc ls (.int i :: .ref a :: rest)) :=
  va_iald hexec hb hK (xw_P1 (xw_at hW hτ hκ hcell)) 0 0 rfl rfl (xi_in hi hk hn) hdg (by rw [xi_cl hi hk hn]; exact kk)
theorem xg_zald (hexec : p.tables.exec = Jvm.exec) (hb : c.code = cc) (hK : va_K G vwCl (xw_tys g) s) (hW : xw_D G g τ M H) (hτ : τ a = 13) {i : Int32} (k : Nat) (hi : i = nI k) (hk : k < 2) (hdg : decode cc pc = .ok (.baload, 1))
    (kk : W p l e R s m args below meth c H locs cells slots Q (F0 m (pc + 1) ls (.int (M a k) :: rest))) : W p l e R s m args below meth c H locs cells slots Q (F0 m pc ls (.int i :: .ref a :: rest)) :=
  va_zald hexec hb hK (xw_P1 (xw_at hW hτ (by decide) rfl)) 0 1 rfl rfl (xi_in hi hk (by omega)) hdg (by rw [xi_cl hi hk (by omega)]; exact kk)
theorem xg_cald (hexec : p.tables.exec = Jvm.exec) (hb : c.code = cc) (hK : va_K G vwCl (xw_tys g) s) (hW : xw_D G g τ M H) (hτ : τ a = 15) {i : Int32} (k : Nat) (hi : i = nI k) (hk : k < 60) (hdg : decode cc pc = .ok (.caload, 1))
    (kk : W p l e R s m args below meth c H locs cells slots Q (F0 m (pc + 1) ls (.int (M a k) :: rest))) : W p l e R s m args below meth c H locs cells slots Q (F0 m pc ls (.int i :: .ref a :: rest)) :=
  va_cald hexec hb hK (xw_P1 (xw_at hW hτ (by decide) rfl)) 0 2 rfl rfl (xi_in hi hk (by omega)) hdg (by rw [xi_cl hi hk (by omega)]; exact kk)
theorem xg_iast (hexec : p.tables.exec = Jvm.exec) (hb : c.code = cc) (hK : va_K G vwCl (xw_tys g) s) (O : xk_O τ A) (hW : xw_D G g τ M H) (hS : va_S A H0 H locs) {n : Nat} (hτ : τ a = κ) (hκ : κ ≠ 0) (hcell : ∀ r, xw_cell g κ r a = .inl (g 0, n, .inl r)) (hok : ∀ r, xw_ok κ r) {i x : Int32} (k : Nat) (hi : i = nI k) (hk : k < n) (hn : n < 2 ^ 31) (hdg : decode cc pc = .ok (.iastore, 1))
    (kk : ∀ (H1 : Heap) (locs1 : List Loc), xw_D G g τ (xu_p M a k x) H1 → va_S A H0 H1 locs1 → W p l e R s m args below meth c H1 locs1 cells slots Q (F0 m (pc + 1) ls rest)) : W p l e R s m args below meth c H locs cells slots Q (F0 m pc ls (.int x :: .int i :: .ref a :: rest)) := by
  obtain ⟨ws, hP, hD, hall, -⟩ := xw_list hW O.1
  obtain ⟨q0, hq⟩ := hall a (by rw [hτ]; exact hκ)
  have hq' : ws[q0]? = some (a, .inl (g 0, n, .inl (M a))) := by rw [hq, hτ, hcell]
  refine va_iast hexec hb hK hP hD hS q0 0 hq' rfl (xi_in hi hk hn) hdg (fun H1 locs1 hP1 _ hS1 => kk H1 locs1 ?_ hS1)
  rw [xi_cl hi hk hn] at hP1
  exact xw_back hD hall (fun x hx => (hW x hx).2) hq' hP1 (fun h => by rw [hτ, hcell]; exact h) (by rw [hτ]; exact hok _)
theorem xg_zast (hexec : p.tables.exec = Jvm.exec) (hb : c.code = cc) (hK : va_K G vwCl (xw_tys g) s) (O : xk_O τ A) (hW : xw_D G g τ M H) (hS : va_S A H0 H locs) (hτ : τ a = 13) {i x : Int32} (k : Nat) (hi : i = nI k) (hk : k < 2) (hx : vp_nar .boolean x = x) (hok : xw_ok 13 (upd (M a) k x)) (hdg : decode cc pc = .ok (.bastore, 1))
    (kk : ∀ (H1 : Heap) (locs1 : List Loc), xw_D G g τ (xu_p M a k x) H1 → va_S A H0 H1 locs1 → W p l e R s m args below meth c H1 locs1 cells slots Q (F0 m (pc + 1) ls rest)) : W p l e R s m args below meth c H locs cells slots Q (F0 m pc ls (.int x :: .int i :: .ref a :: rest)) := by
  obtain ⟨ws, hP, hD, hall, -⟩ := xw_list hW O.1
  obtain ⟨q0, hq⟩ := hall a (by rw [hτ]; decide)
  have hq' : ws[q0]? = some (a, .inl (g 1, 2, .inl (M a))) := by rw [hq, hτ]; rfl
  refine va_zast hexec hb hK hP hD hS q0 1 hq' rfl (xi_in hi hk (by omega)) hdg (fun H1 locs1 hP1 _ hS1 => kk H1 locs1 ?_ hS1)
  rw [xi_cl hi hk (by omega), hx] at hP1
  exact xw_back hD hall (fun x hx => (hW x hx).2) hq' hP1 (fun h => by rw [hτ]; exact h) (by rw [hτ]; exact hok)
theorem xg_cast (hexec : p.tables.exec = Jvm.exec) (hb : c.code = cc) (hK : va_K G vwCl (xw_tys g) s) (O : xk_O τ A) (hW : xw_D G g τ M H) (hS : va_S A H0 H locs) (hτ : τ a = 15) {i x : Int32} (k : Nat) (hi : i = nI k) (hk : k < 60) (hx : vp_nar .char x = x) (hdg : decode cc pc = .ok (.castore, 1))
    (kk : ∀ (H1 : Heap) (locs1 : List Loc), xw_D G g τ (xu_p M a k x) H1 → va_S A H0 H1 locs1 → W p l e R s m args below meth c H1 locs1 cells slots Q (F0 m (pc + 1) ls rest)) : W p l e R s m args below meth c H locs cells slots Q (F0 m pc ls (.int x :: .int i :: .ref a :: rest)) := by
  obtain ⟨ws, hP, hD, hall, -⟩ := xw_list hW O.1
  obtain ⟨q0, hq⟩ := hall a (by rw [hτ]; decide)
  have hq' : ws[q0]? = some (a, .inl (g 2, 60, .inl (M a))) := by rw [hq, hτ]; rfl
  refine va_cast hexec hb hK hP hD hS q0 2 hq' rfl (xi_in hi hk (by omega)) hdg (fun H1 locs1 hP1 _ hS1 => kk H1 locs1 ?_ hS1)
  rw [xi_cl hi hk (by omega), hx] at hP1
  exact xw_back hD hall (fun x hx => (hW x hx).2) hq' hP1 (fun h => by rw [hτ]; exact h) (by rw [hτ]; trivial)
theorem xg_alen (hexec : p.tables.exec = Jvm.exec) (hb : c.code = cc) (hK : va_K G vwCl (xw_tys g) s) (hW : xw_D G g τ M H) (hτ : τ a = κ) (hκ : κ ≠ 0) {cA : ClassId} {x : vp_A} (hcell : xw_cell g κ (M a) a = .inl (cA, x)) (t1 : Nat) {ty : FieldType} (ht : (xw_tys g)[t1]? = some (cA, ty)) {v : Int32} (hv : Int32.ofNat x.1 = v) (hdg : decode cc pc = .ok (.arraylength, 1))
    (kk : W p l e R s m args below meth c H locs cells slots Q (F0 m (pc + 1) ls (.int v :: rest))) : W p l e R s m args below meth c H locs cells slots Q (F0 m pc ls (.ref a :: rest)) :=
  va_alen hexec hb hK (xw_P1 (xw_at hW hτ hκ hcell)) 0 t1 rfl ht hv hdg kk
/-- windows[w] of the ministry at a -/
theorem xg_aldW (hexec : p.tables.exec = Jvm.exec) (hb : c.code = cc) (hK : va_K G vwCl (xw_tys g) s) (hW : xw_D G g τ M H) (hτ : τ (a + 2) = 3) {i : Int32} (k : Nat) (hi : i = nI k) (hk : k < 6) (hdg : decode cc pc = .ok (.aaload, 1))
    (kk : W p l e R s m args below meth c H locs cells slots Q (F0 m (pc + 1) ls (.ref (a + 5 * k + 4) :: rest))) : W p l e R s m args below meth c H locs cells slots Q (F0 m pc ls (.int i :: .ref (a + 2) :: rest)) :=
  va_aldq hexec hb hK (xw_P1 (xw_at hW hτ (by decide) rfl)) 0 3 rfl rfl (xi_in hi hk (by omega)) hdg (by
    rw [xi_cl hi hk (by omega), show a + 2 + 5 * k + 2 = a + 5 * k + 4 by omega]; exact kk)
theorem xg_aldP (hexec : p.tables.exec = Jvm.exec) (hb : c.code = cc) (hK : va_K G vwCl (xw_tys g) s) (hW : xw_D G g τ M H) (hτ : τ (a + 3) = 4) {i : Int32} (k : Nat) (hi : i = nI k) (hk : k < 24) (hdg : decode cc pc = .ok (.aaload, 1))
    (kk : W p l e R s m args below meth c H locs cells slots Q (F0 m (pc + 1) ls (.ref (a + 2 * k + 34) :: rest))) : W p l e R s m args below meth c H locs cells slots Q (F0 m pc ls (.int i :: .ref (a + 3) :: rest)) :=
  va_aldq hexec hb hK (xw_P1 (xw_at hW hτ (by decide) rfl)) 0 4 rfl rfl (xi_in hi hk (by omega)) hdg (by
    rw [xi_cl hi hk (by omega), show a + 3 + 2 * k + 31 = a + 2 * k + 34 by omega]; exact kk)
/-- states[i] of the history at a -/
theorem xg_aldH (hexec : p.tables.exec = Jvm.exec) (hb : c.code = cc) (hK : va_K G vwCl (xw_tys g) s) (hW : xw_D G g τ M H) (hτ : τ (a + 1) = 11) {i : Int32} (k : Nat) (hi : i = nI k) (hk : k < 6) (hdg : decode cc pc = .ok (.aaload, 1))
    (kk : W p l e R s m args below meth c H locs cells slots Q (F0 m (pc + 1) ls (.ref (a + 82 * k + 2) :: rest))) : W p l e R s m args below meth c H locs cells slots Q (F0 m pc ls (.int i :: .ref (a + 1) :: rest)) :=
  va_aldq hexec hb hK (xw_P1 (xw_at hW hτ (by decide) rfl)) 0 5 rfl rfl (xi_in hi hk (by omega)) hdg (by
    rw [xi_cl hi hk (by omega), show a + 1 + 82 * k + 1 = a + 82 * k + 2 by omega]; exact kk)
/-- slots[i] of the object at a -/
theorem xg_aldS (hexec : p.tables.exec = Jvm.exec) (hb : c.code = cc) (hK : va_K G vwCl (xw_tys g) s) (hW : xw_D G g τ M H) (hτ : τ (a + 659) = 12) {i : Int32} (k : Nat) (hi : i = nI k) (hk : k < 2) (hdg : decode cc pc = .ok (.aaload, 1))
    (kk : W p l e R s m args below meth c H locs cells slots Q (F0 m (pc + 1) ls (.ref (a + 82 * k + 660) :: rest))) : W p l e R s m args below meth c H locs cells slots Q (F0 m pc ls (.int i :: .ref (a + 659) :: rest)) :=
  va_aldq hexec hb hK (xw_P1 (xw_at hW hτ (by decide) rfl)) 0 5 rfl rfl (xi_in hi hk (by omega)) hdg (by
    rw [xi_cl hi hk (by omega), show a + 659 + 82 * k + 1 = a + 82 * k + 660 by omega]; exact kk)
theorem xw_arr {cA : ClassId} {n : Nat} {f f' : Nat → Int32} (h : ∀ j, j < n → f j = f' j) : vp_cell cA (n, .inl f) = vp_cell cA (n, .inl f') := by
  rw [vp_cell_i, vp_cell_i]
  unfold arrV
  congr 1
  congr 1
  funext j
  exact congrArg Value.int (h j.val j.isLt)
/-- System.arraycopy(src, 0, dst, 0, the whole length) between int arrays -/
theorem xg_cpy (hexec : p.tables.exec = Jvm.exec) (hb : c.code = cc) (hml : c.maxLocals = ls.size) {own : String} {index : Nat} (hown : s.vm.findClass own = some m.cls) (hlink : (Cond.methodLink own index arraycopyName).before args s = true) (hnat : (Cond.native arraycopyName).before args s = true) (hstat : (Cond.static arraycopyName).before args s = true) (hini : (Cond.initialized "java/lang/System").before args s = true)
    (hK : va_K G vwCl (xw_tys g) s) (O : xk_O τ A) (hW : xw_D G g τ M H) (hS : va_S A H0 H locs) {a0 n : Nat} (hτ0 : τ a0 = κ) (hτ : τ a = κ) (hκ : κ ≠ 0) (hcell : ∀ r x, xw_cell g κ r x = .inl (g 0, n, .inl r)) (hok : ∀ r, xw_ok κ r) {sp dp nn : Int32} (h1 : sp = nI 0) (h2 : dp = nI 0) (h3 : nn = nI n) (hn : n < 2 ^ 31)
    (hframes : 1 ≤ R.frames) (hlocals : (rest.map fun v => v.category).sum + (nativeFrameWords "java/lang/System" "arraycopy" 5 + 11) ≤ R.locals) (hdg : decode cc pc = .ok (.invokestatic index, 3))
    (kk : ∀ (H1 : Heap) (locs1 : List Loc), xw_D G g τ (xr_up M a (M a0)) H1 → va_S A H0 H1 locs1 → W p l e R s m args below meth c H1 locs1 cells slots Q (F0 m (pc + 3) ls rest)) : W p l e R s m args below meth c H locs cells slots Q (F0 m pc ls (.int nn :: .int dp :: .ref a :: .int sp :: .ref a0 :: rest)) := by
  obtain ⟨ws, hP, hD, hall, -⟩ := xw_list hW O.1
  obtain ⟨q0, hq⟩ := hall a (by rw [hτ]; exact hκ)
  obtain ⟨q1, hq1⟩ := hall a0 (by rw [hτ0]; exact hκ)
  have hq' : ws[q0]? = some (a, .inl (g 0, n, .inl (M a))) := by rw [hq, hτ, hcell]
  have hq1' : ws[q1]? = some (a0, .inl (g 0, n, .inl (M a0))) := by rw [hq1, hτ0, hcell]
  subst h1; subst h2; subst h3
  have z0 : (nI 0).toNatClampNeg = 0 := nI_clamp (by omega)
  have zn : (nI n).toNatClampNeg = n := nI_clamp hn
  refine va_copyi hexec hb hml hown hlink hnat hstat hini hK hP hD hS q1 q0 0 0 hq1' hq' rfl rfl rfl (nI_pos (by omega)) (nI_pos (by omega)) (nI_pos hn) (by rw [z0, zn]; omega) (by rw [z0, zn]; omega) (fun _ _ => rfl) hframes hlocals hdg (fun H1 locs1 hP1 _ hS1 => kk H1 locs1 ?_ hS1)
  rw [z0, zn] at hP1
  refine xw_back hD hall (fun x hx => (hW x hx).2) hq' hP1 (fun h => ?_) (by rw [hτ]; exact hok _)
  rw [hτ, hcell]
  refine Eq.trans h (congrArg some (xw_arr (fun j hj => ?_)))
  unfold va_cpy
  rw [if_pos ⟨Nat.zero_le _, by omega⟩]
  congr 1
  omega
/-- a call of an instance method that makes no cell -/
theorem xr_V {y : MethodName} {bytes : ByteArray} {maxL nL n index : Nat} {ret : Option FieldType} {ws : List Cond} {rm : Room} {Qc : Array Value → State → Outcome → State → Prop} {Ts : List Cond} {own C : String} {b ci : Nat} {T : u_T} {N : Nat} {As st : List Value} {fs : List Value}
    (S : CallFix p m c cc nL s args Ts own) (hM : Met l y ws rm (va_Pc (.ref b :: As) (xS_t G g t0 τ A M)) Qc 0 0 A) (cw : CallW R s args own C index y bytes maxL ret ws rm 0 0 n) (hK : va_K G vwCl (xw_tys g) s) (hst : xw_st t0 A s s.heap) (hnw : xw_nw g s) (hS : va_S A s.heap H locs) (hW : xw_D G g τ M H) (hτ : τ b = κ) (hκ : κ ≠ 0) (hcell : xw_cell g κ (M b) b = .inr (ci, fs)) (hc : vwCl[ci]? = some (C, T, N))
    (hn : As.length = n) (hsize : ls.size = nL) (hstack : st = As.reverse ++ .ref b :: rest) (hWd : (rest.map fun v => v.category).sum ≤ 8) (hdg : decode cc pc = .ok (.invokevirtual index, 3)) (hf : cells ≤ R.cells ∧ slots ≤ R.slots) :
    va_Run p l e R s m args below meth c H locs cells slots 0 0 (F0 m pc ls st) rest (Qc (Value.ref b :: As).toArray) A :=
  va_runV S hM cw ⟨xS_blind _, va_recv hK (xw_P1 (xw_at hW hτ hκ hcell)) (q0 := 0) hc rfl, fun U hU hWm => ⟨rfl, xS_mk hK hst hnw hS hW hU hWm⟩⟩ rfl hn hsize hstack (lv_room hWd) hdg hf
/-- a call of a static method that makes no cell -/
theorem xr_S {y : MethodName} {bytes : ByteArray} {maxL nL n index : Nat} {ret : Option FieldType} {ws : List Cond} {rm : Room} {Qc : Array Value → State → Outcome → State → Prop} {Ts : List Cond} {own : String} {As st : List Value}
    (S : CallFix p m c cc nL s args Ts own) (hM : Met l y ws rm (va_Pc As (xS_t G g t0 τ A M)) Qc 0 0 A) (cw : CallB R s args own index y bytes maxL ret ws rm 0 0 n ∧ (Cond.static y).before args s = true) (hK : va_K G vwCl (xw_tys g) s) (hst : xw_st t0 A s s.heap) (hnw : xw_nw g s) (hS : va_S A s.heap H locs) (hW : xw_D G g τ M H)
    (hn : As.length = n) (hsize : ls.size = nL) (hstack : st = As.reverse ++ rest) (hWd : (rest.map fun v => v.category).sum ≤ 8) (hdg : decode cc pc = .ok (.invokestatic index, 3)) (hf : cells ≤ R.cells ∧ slots ≤ R.slots) :
    va_Run p l e R s m args below meth c H locs cells slots 0 0 (F0 m pc ls st) rest (Qc As.toArray) A :=
  va_runS S hM cw ⟨xS_blind _, fun U hU hWm => ⟨rfl, xS_mk hK hst hnw hS hW hU hWm⟩⟩ rfl hn hsize hstack (lv_room hWd) hdg hf
theorem xc_i {st0 : List Value} {aa : Array Value} {post : Int32 → xm_T → Prop} (hr : va_Run p l e R s m args below meth c H locs cells slots 0 0 (F0 m pc ls st0) rest (va_Qi post (fun M' t => xw_D G g τ M' t.heap) A aa) A) (hS : va_S A H0 H locs)
    (kk : ∀ (r : Int32) (M' : xm_T) (H1 : Heap) (locs1 : List Loc), post r M' → xw_D G g τ M' H1 → va_S A H0 H1 locs1 → W p l e R s m args below meth c H1 locs1 cells slots Q (F0 m (pc + 3) ls (.int r :: rest))) : W p l e R s m args below meth c H locs cells slots Q (F0 m pc ls st0) :=
  va_calli hr hS (fun _ _ h => h) (fun _ h => h) (fun r u t H1 locs1 ht _ hp hB _ _ hS1 => kk r u H1 locs1 hp (by rw [← ht]; exact hB) hS1)
theorem xc_v {st0 : List Value} {aa : Array Value} {post : xm_T → Prop} (hr : va_Run p l e R s m args below meth c H locs cells slots 0 0 (F0 m pc ls st0) rest (va_Qv post (fun M' t => xw_D G g τ M' t.heap) A aa) A) (hS : va_S A H0 H locs)
    (kk : ∀ (M' : xm_T) (H1 : Heap) (locs1 : List Loc), post M' → xw_D G g τ M' H1 → va_S A H0 H1 locs1 → W p l e R s m args below meth c H1 locs1 cells slots Q (F0 m (pc + 3) ls rest)) : W p l e R s m args below meth c H locs cells slots Q (F0 m pc ls st0) :=
  va_callv hr hS (fun _ _ h => h) (fun _ h => h) (fun u t H1 locs1 ht _ hp hB _ _ hS1 => kk u H1 locs1 hp (by rw [← ht]; exact hB) hS1)
theorem xc_q {st0 : List Value} {aa : Array Value} {post : Option Nat → xm_T → Prop} (hr : va_Run p l e R s m args below meth c H locs cells slots 0 0 (F0 m pc ls st0) rest (va_Qq post (fun M' t => xw_D G g τ M' t.heap) A aa) A) (hS : va_S A H0 H locs)
    (kk : ∀ (r : Option Nat) (M' : xm_T) (H1 : Heap) (locs1 : List Loc), post r M' → xw_D G g τ M' H1 → va_S A H0 H1 locs1 → W p l e R s m args below meth c H1 locs1 cells slots Q (F0 m (pc + 3) ls (va_rf r :: rest))) : W p l e R s m args below meth c H locs cells slots Q (F0 m pc ls st0) :=
  va_callq hr hS (fun _ _ h => h) (fun _ h => h) (fun r u t H1 locs1 ht _ hp hB _ _ hS1 => kk r u H1 locs1 hp (by rw [← ht]; exact hB) hS1)
/-- a loop: its counter from k0 up to N -/
theorem xl_up {σ : Type} (N : Nat) (I : Nat → σ → Heap → List Loc → Array Slot → Prop)
    (hx : ∀ (z : σ) (H : Heap) (locs : List Loc) (ls : Array Slot), I N z H locs ls → W p l e R s m args below meth c H locs cells slots Q (F0 m pc ls []))
    (hs : ∀ (k : Nat) (z : σ) (H : Heap) (locs : List Loc) (ls : Array Slot), k < N → I k z H locs ls → (∀ (z' : σ) (H' : Heap) (locs' : List Loc) (ls' : Array Slot), I (k + 1) z' H' locs' ls' → W p l e R s m args below meth c H' locs' cells slots Q (F0 m pc ls' [])) → W p l e R s m args below meth c H locs cells slots Q (F0 m pc ls []))
    {k0 : Nat} {z0 : σ} {H : Heap} {locs : List Loc} {ls : Array Slot} (hk : k0 ≤ N) (h0 : I k0 z0 H locs ls) : W p l e R s m args below meth c H locs cells slots Q (F0 m pc ls []) := by
  have key : ∀ (n k : Nat), k + n = N → ∀ (z : σ) (H : Heap) (locs : List Loc) (ls : Array Slot), I k z H locs ls → W p l e R s m args below meth c H locs cells slots Q (F0 m pc ls []) := by
    intro n
    induction n with
    | zero => intro k hk z H locs ls h; rw [Nat.add_zero] at hk; subst hk; exact hx z H locs ls h
    | succ n ih => intro k hk z H locs ls h; exact hs k z H locs ls (by omega) h (fun z' H' locs' ls' h' => ih (k + 1) (by omega) z' H' locs' ls' h')
  exact key (N - k0) k0 (by omega) z0 H locs ls h0
end XR

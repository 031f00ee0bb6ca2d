/-! ===== what holds between two calls ===== -/
abbrev pln : Type := Nat → Nat → Int32
abbrev isBc (a : Nat) : Prop := a = 47 ∨ a = 48 ∨ a = 56 ∨ a = 57 ∨ a = 65 ∨ a = 66 ∨ a = 74 ∨ a = 75 ∨ a = 83 ∨ a = 84 ∨ a = 92 ∨ a = 93
abbrev ftT (a k : Nat) : Prop := (a = 1 ∧ k = 0) ∨ a = 9 ∨ (a = 235 ∧ k = 2) ∨ a = 236
abbrev ftL (a k : Nat) : Prop := (a = 1 ∧ k = 1) ∨ (a = 235 ∧ k = 17)
abbrev ftH (a k : Nat) : Prop := (a = 11 ∧ (k = 1 ∨ k = 3)) ∨ a = 14 ∨ (23 ≤ a ∧ a < 47) ∨ isBc a ∨ (a = 235 ∧ (k = 37 ∨ k = 43)) ∨ (259 ≤ a ∧ a ≤ 267)
abbrev ftY (a k : Nat) : Prop := (a = 0 ∧ k = 6) ∨ (223 ≤ a ∧ a ≤ 233 ∧ k < 3) ∨ (a = 235 ∧ k = 48) ∨ (268 ≤ a ∧ a ≤ 270)
abbrev ftD (a k : Nat) : Prop := (a = 0 ∧ (k = 7 ∨ k = 8)) ∨ (a = 235 ∧ (k = 52 ∨ k = 53))
abbrev ftP (a k : Nat) : Prop := (129 ≤ a ∧ a < 141 ∧ k ≠ 4) ∨ (129 ≤ a ∧ a < 141 ∧ a % 2 = 0) ∨ (271 ≤ a ∧ a ≤ 273)
abbrev ftO (a k : Nat) : Prop := (105 ≤ a ∧ a < 129) ∨ (223 ≤ a ∧ a ≤ 234 ∧ (k = 3 ∨ k = 5 ∨ a % 2 = 0)) ∨ (287 ≤ a ∧ a ≤ 293)
abbrev ftX (a _k : Nat) : Prop := (2 ≤ a ∧ a ≤ 7) ∨ (15 ≤ a ∧ a ≤ 20) ∨ (49 ≤ a ∧ a ≤ 54) ∨ (58 ≤ a ∧ a ≤ 63) ∨ (67 ≤ a ∧ a ≤ 72) ∨ (76 ≤ a ∧ a ≤ 81) ∨ (85 ≤ a ∧ a ≤ 90) ∨ (94 ≤ a ∧ a ≤ 99) ∨ (243 ≤ a ∧ a ≤ 257)
def sTape (f : pln) (len : Nat) : Prop := len ≤ 2000 ∧ f 1 0 = n32 len ∧ f 235 2 = n32 len ∧ ∀ j, j < len → f 9 j = f 236 j &&& 255 ∧ ∃ c, c < 256 ∧ f 9 j = n32 c
def sPl (f : pln) : Prop := f 1 1 = f 235 17
def sHall (f : pln) (D : HD) : Prop := HOK D ∧ HX f D ∧ HR f D
def sLor (f : pln) (Y : LY) : Prop := yOK Y ∧ f 0 6 = n32 (yq Y) ∧ f 235 48 = n32 (yq Y) ∧ ∀ v, v < yq Y → (f (223 + 2 * v) 0 = n32 (yt Y v) ∧ f (223 + 2 * v) 1 = n32 (yr Y v) ∧ f (223 + 2 * v) 2 = n32 (yl Y v)) ∧ f 268 v = n32 (yt Y v) ∧ f 269 v = n32 (yr Y v) ∧ f 270 v = n32 (yl Y v)
def sDay (f : pln) (s : Bool) : Prop := f 0 7 = f 235 52 ∧ f 0 8 = bB s ∧ f 235 53 = bB s
def sPur (f : pln) (D : HD) (s : Bool) (ha : Nat → Nat → Nat) (sp nl : Nat → Nat) : Prop := (∀ b, b < hm D → PB D ha sp b ∧ PX f (129 + 2 * b) D ha sp b ∧ f (129 + 2 * b) 1 = n32 (sum6 (ha b)) ∧ f (129 + 2 * b) 2 = n32 (nl b)) ∧ (∀ b k, b < 6 → k < 6 → f 271 (6 * b + k) = n32 (ha b k)) ∧ (∀ b, b < 6 → f 272 b = n32 (sp b) ∧ f 273 b = n32 (nl b)) ∧ (∀ b, hm D ≤ b → (∀ k, ha b k = 0) ∧ sp b = 0 ∧ nl b = 0) ∧ (s = false → ∀ b, (∀ k, ha b k = 0) ∧ sp b = 0 ∧ nl b = 0)
def sOut (f : pln) (D : HD) (Y : LY) (s : Bool) (dr : Nat → SR) (st le : Nat → Nat) : Prop := s = true → dOK D dr ∧ (∀ l, l < hn D → (f (105 + l) 0 = oI (dr l).1 ∧ f (105 + l) 1 = n32 (dr l).2.1 ∧ f (105 + l) 2 = n32 (dr l).2.2.1 ∧ f (105 + l) 3 = n32 (dr l).2.2.2 ∧ f (105 + l) 4 = n32 (st l) ∧ f (105 + l) 5 = n32 (le l) ∧ f (105 + l) 6 = n32 (brP D l (dr l)) ∧ f (105 + l) 7 = oI (on D Y dr (yq Y) l)) ∧ f 287 l = oI (dr l).1 ∧ f 288 l = n32 (dr l).2.1 ∧ f 289 l = n32 (dr l).2.2.1 ∧ f 290 l = n32 (dr l).2.2.2 ∧ f 291 l = n32 (st l) ∧ f 292 l = n32 (le l) ∧ f 293 l = n32 (brP D l (dr l))) ∧ ∀ v, v < yq Y → ldX f D v (slv D Y dr v)
/-- whose text: the hall's, then the buyers' -/
def txW (σ : aSt) (w : Nat) : Nat := if w = 0 then aTxt σ 11 5 else aTxt σ (47 + 9 * (w - 1)) 3
/-- two planes agree on one page of the reference's texts -/
def agP (pg : Nat) (f f' : pln) : Prop := f' 244 pg = f 244 pg ∧ (∀ a k, 245 ≤ a → a ≤ 249 → 20 * pg ≤ k → k < 20 * pg + 20 → f' a k = f a k) ∧ (∀ a k, 251 ≤ a → a ≤ 255 → 200 * pg ≤ k → k < 200 * pg + 200 → f' a k = f a k) ∧ ∀ a k, 256 ≤ a → a ≤ 257 → 500 * pg ≤ k → k < 500 * pg + 500 → f' a k = f a k
def RPg (f : pln) (pg : Nat) (rs : List Ru) : Prop := ∀ f', agP pg f f' → RT f' pg rs
theorem RPg_self {f : pln} {pg : Nat} {rs : List Ru} (h : RPg f pg rs) : RT f pg rs := h f ⟨rfl, fun _ _ _ _ _ _ => rfl, fun _ _ _ _ _ _ => rfl, fun _ _ _ _ _ _ => rfl⟩
theorem RPg_ag {f f' : pln} {pg : Nat} {rs : List Ru} (h : RPg f pg rs) (e : agP pg f f') : RPg f' pg rs := fun g hg => h g ⟨hg.1.trans e.1, fun a k h1 h2 h3 h4 => (hg.2.1 a k h1 h2 h3 h4).trans (e.2.1 a k h1 h2 h3 h4), fun a k h1 h2 h3 h4 => (hg.2.2.1 a k h1 h2 h3 h4).trans (e.2.2.1 a k h1 h2 h3 h4), fun a k h1 h2 h3 h4 => (hg.2.2.2 a k h1 h2 h3 h4).trans (e.2.2.2 a k h1 h2 h3 h4)⟩
theorem RPg_V {f f' : pln} {pg : Nat} {rs : List Ru} (h : RPg f pg rs) (e : ∀ a k, 244 ≤ a → a ≤ 257 → f' a k = f a k) : RPg f' pg rs := RPg_ag h ⟨e _ _ (by omega) (by omega), fun a k h1 h2 _ _ => e a k (by omega) (by omega), fun a k h1 h2 _ _ => e a k (by omega) (by omega), fun a k h1 h2 _ _ => e a k (by omega) (by omega)⟩
def sTxt (σ : aSt) (f : pln) (rt : Nat → List Ru) (lw : Nat → Nat) : Prop := (isTx (aTxt σ 1 2) ∧ ∀ w, w < 7 → isTx (txW σ w) ∧ txW σ w ≠ aTxt σ 1 2 ∧ ∀ w', w' < 7 → txW σ w' = txW σ w → w' = w) ∧ ∀ w, w < 7 → okT (rt w) ∧ XT f (txW σ w) (rt w) ∧ lw w < 2 ∧ f 243 w = n32 (lw w) ∧ RPg f (2 * w + lw w) (rt w)
def eqV (V : Nat → Nat → Prop) (f f' : pln) : Prop := ∀ a k, V a k → f' a k = f a k
theorem sTape_cg {f f' : pln} {len : Nat} (h : sTape f len) (e : eqV ftT f f') : sTape f' len := by
  obtain ⟨h1, h2, h3, h4⟩ := h
  refine ⟨h1, (e _ _ (by omega)).trans h2, (e _ _ (by omega)).trans h3, fun j hj => ?_⟩
  obtain ⟨q1, c, q2, q3⟩ := h4 j hj
  rw [e 9 j (by omega), e 236 j (by omega)]
  exact ⟨q1, c, q2, q3⟩
theorem sPl_cg {f f' : pln} (h : sPl f) (e : eqV ftL f f') : sPl f' := by
  unfold sPl
  rw [e 1 1 (by omega), e 235 17 (by omega)]
  exact h
theorem HX_V {f f' : pln} {D : HD} (h : HX f D) (hD : HOK D) (e : eqV ftH f f') : HX f' D := by
  obtain ⟨h1, h2, h3, h4, h5, h6⟩ := h
  have n24 := hD.1
  have m6 := hD.2.1
  exact ⟨(e _ _ (by omega)).trans h1, (e _ _ (by omega)).trans h2, fun j i hj hi => (e _ _ (by omega)).trans (h3 j i hj hi), fun k hk => (e _ _ (by omega)).trans (h4 k hk), fun b hb => ⟨(e _ _ (by omega)).trans (h5 b hb).1, (e _ _ (by omega)).trans (h5 b hb).2⟩, fun b k hb hk => (e _ _ (by omega)).trans (h6 b k hb hk)⟩
theorem HR_V {f f' : pln} {D : HD} (h : HR f D) (e : eqV ftH f f') : HR f' D := by
  obtain ⟨h1, h2, h3, h4, h5, h6⟩ := h
  exact ⟨(e _ _ (by omega)).trans h1, (e _ _ (by omega)).trans h2, fun j i hj hi => (e _ _ (by omega)).trans (h3 j i hj hi), fun k hk => (e _ _ (by omega)).trans (h4 k hk), fun b hb => ⟨(e _ _ (by omega)).trans (h5 b hb).1, (e _ _ (by omega)).trans (h5 b hb).2⟩, fun b k hb hk => (e _ _ (by omega)).trans (h6 b k hb hk)⟩
theorem sHall_cg {f f' : pln} {D : HD} (h : sHall f D) (e : eqV ftH f f') : sHall f' D := ⟨h.1, HX_V h.2.1 h.1 e, HR_V h.2.2 e⟩
theorem sLor_cg {f f' : pln} {Y : LY} (h : sLor f Y) (e : eqV ftY f f') : sLor f' Y := by
  obtain ⟨h1, h2, h3, h4⟩ := h
  have q6 := h1.1
  refine ⟨h1, (e _ _ (by omega)).trans h2, (e _ _ (by omega)).trans h3, fun v hv => ?_⟩
  obtain ⟨⟨a1, a2, a3⟩, a4, a5, a6⟩ := h4 v hv
  exact ⟨⟨(e _ _ (by omega)).trans a1, (e _ _ (by omega)).trans a2, (e _ _ (by omega)).trans a3⟩, (e _ _ (by omega)).trans a4, (e _ _ (by omega)).trans a5, (e _ _ (by omega)).trans a6⟩
theorem sDay_cg {f f' : pln} {s : Bool} (h : sDay f s) (e : eqV ftD f f') : sDay f' s := by
  unfold sDay
  rw [e 0 7 (by omega), e 235 52 (by omega), e 0 8 (by omega), e 235 53 (by omega)]
  exact h
theorem sPur_cg {f f' : pln} {D : HD} {s : Bool} {ha : Nat → Nat → Nat} {sp nl : Nat → Nat} (hD : HOK D) (h : sPur f D s ha sp nl) (e : eqV ftP f f') : sPur f' D s ha sp nl := by
  have m6 := hD.2.1
  obtain ⟨h1, h2, h3, h4, h5⟩ := h
  refine ⟨fun b hb => ?_, fun b k hb hk => (e _ _ (by omega)).trans (h2 b k hb hk), fun b hb => ⟨(e _ _ (by omega)).trans (h3 b hb).1, (e _ _ (by omega)).trans (h3 b hb).2⟩, h4, h5⟩
  obtain ⟨a1, ⟨a2, a3⟩, a4, a5⟩ := h1 b hb
  exact ⟨a1, ⟨(e _ _ (by omega)).trans a2, fun k hk => (e _ _ (by omega)).trans (a3 k hk)⟩, (e _ _ (by omega)).trans a4, (e _ _ (by omega)).trans a5⟩
theorem sOut_cg {f f' : pln} {D : HD} {Y : LY} {s : Bool} {dr : Nat → SR} {st le : Nat → Nat} (hD : HOK D) (hY : yOK Y) (h : sOut f D Y s dr st le) (e : eqV ftO f f') : sOut f' D Y s dr st le := by
  have n24 := hD.1
  have q6 := hY.1
  intro hs
  obtain ⟨h1, h2, h3⟩ := h hs
  refine ⟨h1, fun l hl => ?_, fun v hv => ?_⟩
  · have := h2 l hl
    rw [e (105 + l) 0 (by omega), e (105 + l) 1 (by omega), e (105 + l) 2 (by omega), e (105 + l) 3 (by omega), e (105 + l) 4 (by omega), e (105 + l) 5 (by omega), e (105 + l) 6 (by omega), e (105 + l) 7 (by omega), e 287 l (by omega), e 288 l (by omega), e 289 l (by omega), e 290 l (by omega), e 291 l (by omega), e 292 l (by omega), e 293 l (by omega)]
    exact this
  · obtain ⟨a1, a2, a3⟩ := h3 v hv
    exact ⟨(e _ _ (by omega)).trans a1, (e _ _ (by omega)).trans a2, rowL_cg a3 (fun k => e _ _ (by omega))⟩
theorem XT_V {f f' : pln} {t : Nat} {rs : List Ru} (ht : isTx t) (h : XT f t rs) (e : eqV ftX f f') : XT f' t rs := by
  have := tx_in ht
  exact XT_cg h (fun k => e _ k (by omega)) (fun k => e _ k (by omega)) (fun k => e _ k (by omega)) (fun k => e _ k (by omega)) (fun k => e _ k (by omega)) (fun k => e _ k (by omega))
theorem RT_V {f f' : pln} {pg : Nat} {rs : List Ru} (h : RT f pg rs) (e : ∀ a k, 244 ≤ a → a ≤ 257 → f' a k = f a k) : RT f' pg rs := RT_S (S := fun a => a < 244 ∨ 257 < a) h (fun a k ha => e a k (by omega) (by omega)) (fun a h1 h2 => by omega)
theorem sTxt_cg {σ : aSt} {f f' : pln} {rt : Nat → List Ru} {lw : Nat → Nat} (h : sTxt σ f rt lw) (e : eqV ftX f f') : sTxt σ f' rt lw := by
  refine ⟨h.1, fun w hw => ?_⟩
  obtain ⟨h1, h2, h3, h4, h5⟩ := h.2 w hw
  exact ⟨h1, XT_V (h.1.2 w hw).1 h2 e, h3, (e _ _ (by omega)).trans h4, RPg_V h5 (fun a k p1 p2 => e a k (by omega))⟩
/-- numbers that the two sides stand for -/
abbrev GW : Type := Nat × HD × LY × Bool × (Nat → SR) × (Nat → Nat) × (Nat → Nat) × (Nat → Nat → Nat) × (Nat → Nat) × (Nat → Nat) × (Nat → List Ru) × (Nat → Nat)
def IVx (σ : aSt) (f : pln) (len : Nat) (D : HD) (Y : LY) (s : Bool) (dr : Nat → SR) (st le : Nat → Nat) (ha : Nat → Nat → Nat) (sp nl : Nat → Nat) (rt : Nat → List Ru) (lw : Nat → Nat) : Prop := sTape f len ∧ sPl f ∧ sHall f D ∧ sLor f Y ∧ sDay f s ∧ sPur f D s ha sp nl ∧ sOut f D Y s dr st le ∧ sTxt σ f rt lw
def IV (σ : aSt) (f : pln) (W : GW) : Prop := IVx σ f W.1 W.2.1 W.2.2.1 W.2.2.2.1 W.2.2.2.2.1 W.2.2.2.2.2.1 W.2.2.2.2.2.2.1 W.2.2.2.2.2.2.2.1 W.2.2.2.2.2.2.2.2.1 W.2.2.2.2.2.2.2.2.2.1 W.2.2.2.2.2.2.2.2.2.2.1 W.2.2.2.2.2.2.2.2.2.2.2
theorem IV_mk {σ : aSt} {f : pln} {len : Nat} {D : HD} {Y : LY} {s : Bool} {dr : Nat → SR} {st le : Nat → Nat} {ha : Nat → Nat → Nat} {sp nl : Nat → Nat} {rt : Nat → List Ru} {lw : Nat → Nat} (h : IVx σ f len D Y s dr st le ha sp nl rt lw) : ∃ f' W, mk σ f = mk σ f' ∧ IV σ f' W := ⟨f, (len, D, Y, s, dr, st, le, ha, sp, nl, rt, lw), rfl, h⟩
abbrev vis (a k : Nat) : Prop := ftT a k ∨ ftL a k ∨ ftH a k ∨ ftY a k ∨ ftD a k ∨ ftP a k ∨ ftO a k ∨ ftX a k
section IVC
variable {σ : aSt} {f f' : pln} {len : Nat} {D : HD} {Y : LY} {s : Bool} {dr : Nat → SR} {st le : Nat → Nat} {ha : Nat → Nat → Nat} {sp nl : Nat → Nat} {rt : Nat → List Ru} {lw : Nat → Nat}
theorem IVx_cg (h : IVx σ f len D Y s dr st le ha sp nl rt lw) (e : eqV vis f f') : IVx σ f' len D Y s dr st le ha sp nl rt lw := by
  obtain ⟨h1, h2, h3, h4, h5, h6, h7, h8⟩ := h
  exact ⟨sTape_cg h1 (fun a k q => e a k (Or.inl q)), sPl_cg h2 (fun a k q => e a k (Or.inr (Or.inl q))), sHall_cg h3 (fun a k q => e a k (Or.inr (Or.inr (Or.inl q)))), sLor_cg h4 (fun a k q => e a k (Or.inr (Or.inr (Or.inr (Or.inl q))))), sDay_cg h5 (fun a k q => e a k (Or.inr (Or.inr (Or.inr (Or.inr (Or.inl q)))))), sPur_cg h3.1 h6 (fun a k q => e a k (Or.inr (Or.inr (Or.inr (Or.inr (Or.inr (Or.inl q))))))), sOut_cg h3.1 h4.1 h7 (fun a k q => e a k (Or.inr (Or.inr (Or.inr (Or.inr (Or.inr (Or.inr (Or.inl q)))))))), sTxt_cg h8 (fun a k q => e a k (Or.inr (Or.inr (Or.inr (Or.inr (Or.inr (Or.inr (Or.inr q))))))))⟩
end IVC
/-- the two calls answer alike, and all stands again -/
def Same (σ : aSt) (X R : aSt → Option (Int32 × aSt)) (f : pln) : Prop := Ok (X (mk σ f)) (fun y σ1 => Ok (R σ1) (fun z σ2 => y = z ∧ ∃ f' W, σ2 = mk σ f' ∧ IV σ f' W))

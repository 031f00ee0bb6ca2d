/-! ===== quiet seconds of the reference ===== -/
def Filled (K : SP) (G : SG) : Prop := ∀ c, c < 3 → gcl G c ≠ none ∨ hn (kD K) ≤ gnx G
theorem gFill_id {K : SP} {G : SG} {c : Nat} (h : gcl G c ≠ none ∨ hn (kD K) ≤ gnx G) : gFill K c G = G := if_neg (fun q => by
  rcases h with h | h
  · exact h q.1
  · omega)
theorem gFill_mono {K : SP} {G : SG} {c c' : Nat} (h : gcl G c' ≠ none ∨ hn (kD K) ≤ gnx G) : gcl (gFill K c G) c' ≠ none ∨ hn (kD K) ≤ gnx (gFill K c G) := by
  unfold gFill
  split
  · rcases h with h | h
    · left
      show fu (gcl G) c (some (gnx G)) c' ≠ none
      by_cases e : c' = c
      · rw [e, fu_at]; simp
      · rw [fu_ne e]; exact h
    · omega
  · exact h
theorem gFill_did {K : SP} {G : SG} {c : Nat} : gcl (gFill K c G) c ≠ none ∨ hn (kD K) ≤ gnx (gFill K c G) := by
  unfold gFill
  by_cases h : gcl G c = none ∧ gnx G < hn (kD K)
  · rw [if_pos h]
    left
    show fu (gcl G) c (some (gnx G)) c ≠ none
    rw [fu_at]; simp
  · rw [if_neg h]
    by_cases h1 : gcl G c = none
    · right
      exact Nat.le_of_not_lt (fun q => h ⟨h1, q⟩)
    · exact Or.inl h1
theorem gF3_filled {K : SP} {G : SG} : Filled K (gF3 K G) := by
  intro c hc
  unfold gF3
  rcases (show c = 0 ∨ c = 1 ∨ c = 2 by omega) with rfl | rfl | rfl
  · exact gFill_mono (gFill_mono gFill_did)
  · exact gFill_mono gFill_did
  · exact gFill_did
theorem gF3_id {K : SP} {G : SG} (h : Filled K G) : gF3 K G = G := by
  unfold gF3
  rw [gFill_id (h 0 (by omega)), gFill_id (h 1 (by omega)), gFill_id (h 2 (by omega))]
theorem gF3_oc {K : SP} {G : SG} (hK : KOK K) (hG : GI K G) (hgo : ggo G < hn (kD K)) : ∃ c, c < 3 ∧ gcl (gF3 K G) c ≠ none := by
  apply Classical.byContradiction
  intro h
  have h' : ∀ c, c < 3 → gcl (gF3 K G) c = none := fun c hc => Classical.byContradiction (fun q => h ⟨c, hc, q⟩)
  have hf := gF3_filled (K := K) (G := G)
  have hI := gFill_I hK (show 2 < 3 by omega) (gFill_I hK (show 1 < 3 by omega) (gFill_I hK (show 0 < 3 by omega) hG))
  have h2 : ggo (gF3 K G) + oc (gcl (gF3 K G)) = gnx (gF3 K G) := hI.2.1
  have e0 : oc (gcl (gF3 K G)) = 0 := by
    unfold oc
    rw [h' 0 (by omega), h' 1 (by omega), h' 2 (by omega)]
    rfl
  have eg : ggo (gF3 K G) = ggo G := by
    unfold gF3
    rw [gFill_sec.2, gFill_sec.2, gFill_sec.2]
  rcases hf 0 (by omega) with q | q
  · exact q (h' 0 (by omega))
  · omega
/-- nothing happens in this second -/
def Still (K : SP) (G : SG) : Prop := ∀ c l, c < 3 → gcl G c = some l → kL K l < gcp G c ∧ ∀ b, b < hm (kD K) → limX K G l b < n32 (gcp G c)
theorem still_stop {K : SP} {G : SG} {c : Nat} (h : Still K G) (hc : c < 3) : gStop K c (gRest G) = gRest G := by
  unfold gStop
  cases hcc : gcl (gRest G) c with
  | none => rfl
  | some l =>
    have hs := h c l hc hcc
    have hb : bst (gLim K (gRest G) l) (gOk K (gRest G)) (n32 (gcp (gRest G) c)) (hm (kD K)) = none := by
      refine bst_no (fun b hb hok => ?_)
      have := hs.2 b hb
      unfold limX at this
      have hno : ¬ kO K = some b := by
        intro q
        unfold gOk at hok
        rw [decide_eq_true q] at hok
        simp at hok
      rw [if_neg hno] at this
      exact this
    simp only [hb]
def gP (G : SG) (p : Nat → Nat) : SG := (gsec G, gnx G, ggo G, gcl G, p, gha G, gsp G, gnl G, gre G, gst G)
theorem still_low {K : SP} {G : SG} {c : Nat} {p : Nat → Nat} (h : ∀ l, gcl G c = some l → kL K l < p c) : gLow K c (gP G p) = gP G (fun k => if k = c ∧ gcl G c ≠ none then p k - 1 else p k) := by
  unfold gLow
  cases hcc : gcl (gP G p) c with
  | none =>
    have hcc' : gcl G c = none := hcc
    have : (fun k => if k = c ∧ gcl G c ≠ none then p k - 1 else p k) = p := by
      funext k
      rw [if_neg (fun q => q.2 hcc')]
    rw [this]
  | some l =>
    have hcc' : gcl G c = some l := hcc
    have hl : kL K l < gcp (gP G p) c := h l hcc
    simp only [if_pos hl]
    have : fu (gcp (gP G p)) c (gcp (gP G p) c - 1) = (fun k => if k = c ∧ gcl G c ≠ none then p k - 1 else p k) := by
      funext k
      unfold fu
      by_cases e : k = c
      · rw [if_pos e, if_pos ⟨e, by rw [hcc']; simp⟩, e]
        rfl
      · rw [if_neg e, if_neg (fun q => e q.1)]
        rfl
    rw [this]
    rfl
theorem still_tick {K : SP} {G : SG} (hf : Filled K G) (h : Still K G) : gTick K G = gRest (gQuiet 1 G) := by
  unfold gTick
  rw [gF3_id hf]
  unfold gS3
  rw [still_stop h (by omega), still_stop h (by omega), still_stop h (by omega)]
  unfold gL3
  have eR : gRest G = gP (gRest G) (gcp G) := rfl
  rw [eR, still_low (G := gRest G) (c := 0) (fun l hl => (h 0 l (by omega) hl).1)]
  rw [still_low (G := gRest G) (c := 1) (fun l hl => by
    have := (h 1 l (by omega) hl).1
    rw [if_neg (fun q => by omega)]
    exact this)]
  rw [still_low (G := gRest G) (c := 2) (fun l hl => by
    have := (h 2 l (by omega) hl).1
    rw [if_neg (fun q => by omega), if_neg (fun q => by omega)]
    exact this)]
  have ep : (fun k => if k = 2 ∧ gcl (gRest G) 2 ≠ none then (if k = 1 ∧ gcl (gRest G) 1 ≠ none then (if k = 0 ∧ gcl (gRest G) 0 ≠ none then gcp G k - 1 else gcp G k) - 1 else (if k = 0 ∧ gcl (gRest G) 0 ≠ none then gcp G k - 1 else gcp G k)) - 1 else (if k = 1 ∧ gcl (gRest G) 1 ≠ none then (if k = 0 ∧ gcl (gRest G) 0 ≠ none then gcp G k - 1 else gcp G k) - 1 else (if k = 0 ∧ gcl (gRest G) 0 ≠ none then gcp G k - 1 else gcp G k))) = (fun c => if c < 3 ∧ gcl G c ≠ none then gcp G c - 1 else gcp G c) := by
    funext k
    show (if k = 2 ∧ gcl G 2 ≠ none then _ else _) = _
    by_cases e2 : k = 2
    · subst e2
      rw [if_neg (show ¬ ((2 : Nat) = 1 ∧ gcl (gRest G) 1 ≠ none) from fun q => by omega), if_neg (show ¬ ((2 : Nat) = 0 ∧ gcl (gRest G) 0 ≠ none) from fun q => by omega)]
      by_cases hg : gcl G 2 = none
      · rw [if_neg (fun q => q.2 hg), if_neg (fun q => q.2 hg)]
      · rw [if_pos ⟨rfl, hg⟩, if_pos ⟨by omega, hg⟩]
    · rw [if_neg (fun q => e2 q.1)]
      by_cases e1 : k = 1
      · subst e1
        rw [if_neg (show ¬ ((1 : Nat) = 0 ∧ gcl (gRest G) 0 ≠ none) from fun q => by omega)]
        by_cases hg : gcl G 1 = none
        · rw [if_neg (fun q => q.2 hg), if_neg (fun q => q.2 hg)]
        · rw [if_pos ⟨rfl, hg⟩, if_pos ⟨by omega, hg⟩]
      · rw [if_neg (fun q => e1 q.1)]
        by_cases e0 : k = 0
        · subst e0
          by_cases hg : gcl G 0 = none
          · rw [if_neg (fun q => q.2 hg), if_neg (fun q => q.2 hg)]
          · rw [if_pos ⟨rfl, hg⟩, if_pos ⟨by omega, hg⟩]
        · rw [if_neg (fun q => e0 q.1), if_neg (fun q => by omega)]
  rw [ep]
  rfl
theorem gQuiet_q (j : Nat) (G : SG) : gQuiet 1 (gQuiet j G) = gQuiet (j + 1) G := by
  have ep : (fun c => if c < 3 ∧ gcl G c ≠ none then (if c < 3 ∧ gcl G c ≠ none then gcp G c - j else gcp G c) - 1 else (if c < 3 ∧ gcl G c ≠ none then gcp G c - j else gcp G c)) = (fun c => if c < 3 ∧ gcl G c ≠ none then gcp G c - (j + 1) else gcp G c) := by
    funext c
    by_cases h : c < 3 ∧ gcl G c ≠ none
    · rw [if_pos h, if_pos h, if_pos h]
      omega
    · rw [if_neg h, if_neg h, if_neg h]
  show (gsec G + j + 1, gnx G, ggo G, gcl G, (fun c => if c < 3 ∧ gcl G c ≠ none then (if c < 3 ∧ gcl G c ≠ none then gcp G c - j else gcp G c) - 1 else (if c < 3 ∧ gcl G c ≠ none then gcp G c - j else gcp G c)), gha G, gsp G, gnl G, gre G, gst G) = _
  rw [ep]
  rfl
theorem gQuiet_0 (G : SG) : gQuiet 0 G = G := by
  unfold gQuiet
  have : (fun c => if c < 3 ∧ gcl G c ≠ none then gcp G c - 0 else gcp G c) = gcp G := by
    funext c
    split <;> rfl
  rw [this]
  rfl
theorem gRest_Q (j : Nat) (G : SG) : gRest (gQuiet j G) = gQuiet j (gRest G) := rfl
theorem still_q {K : SP} {G : SG} {q j : Nat} (h : QT K G q) (hj : j < q) : Still K (gQuiet j G) := by
  intro c l hc hl
  have hl' : gcl G c = some l := hl
  have := (h.2.1 c l hc hl').2 j hj
  have e : gcp (gQuiet j G) c = gcp G c - j := if_pos ⟨hc, by rw [hl']; simp⟩
  rw [e]
  exact this
theorem quiet_I {K : SP} {G : SG} {q : Nat} (hG : GI K G) (h : QT K G q) {j : Nat} (hj : j ≤ q) : GI K (gQuiet j G) := by
  obtain ⟨h1, h2, h3, h4, h5, h6, h7, h8, h9⟩ := hG
  refine ⟨h1, h2, fun c l hc hl => ?_, h4, h5, h6, h7, h8, fun l r hr => ?_⟩
  · have hl' : gcl G c = some l := hl
    have := h3 c l hc hl'
    have e : gcp (gQuiet j G) c = gcp G c - j := if_pos ⟨hc, by rw [hl']; simp⟩
    have hq := h.2.1 c l hc hl'
    rw [e]
    refine ⟨this.1, this.2.1, ?_, by omega⟩
    by_cases hj0 : j = 0
    · omega
    · have := (hq.2 (j - 1) (by omega)).1
      omega
  · have := h9 l r hr
    exact ⟨this.1, this.2.1, this.2.2.1, by show r.2.2.1 ≤ gsec G + j; omega, this.2.2.2.2⟩
/-- what a turn of the program does -/
def gTurn (K : SP) (q : Nat) (G : SG) : SG := gFall (gL3 K (gS3 K (gRest (gQuiet q (gF3 K G)))))
theorem turn_0 {K : SP} {G : SG} : gTick K G = gTurn K 0 G := by
  unfold gTick gTurn
  rw [gQuiet_0]
theorem tick_fill {K : SP} {G : SG} : gTick K (gF3 K G) = gTick K G := by
  unfold gTick
  rw [gF3_id gF3_filled]
section RTURN
variable {N : Nat} {σ : aSt} {K : SP} {x1 : Int32} {Q : Int32 → aSt → Prop}
theorem still_R {G : SG} (h : Still K G) : Still K (gRest G) := h
theorem r_qticks {q n0 : Nat} {F : SG} (hN : 10000 ≤ N) (hK : KOK K) (hx1 : x1 = oI (kO K)) (hO : ∀ b, kO K = some b → b < 6) (hF : GI K F) (hfil : Filled K F) (hgo : ggo F < hn (kD K)) (hsec : gsec F + q < 100000) (hq : QT K F q) {fr : Nat → Nat → Int32} (h : ∀ fr', RS fr' K (gFall (gL3 K (gS3 K (gRest (gQuiet q F))))) → eqS scS fr fr' → Ok (H_X12_goes_113 N (n0 - (q + 1)) x1 (n32 (gnx (gFall (gL3 K (gS3 K (gRest (gQuiet q F))))))) (n32 (ggo (gFall (gL3 K (gS3 K (gRest (gQuiet q F))))))) (pre (gsec (gFall (gL3 K (gS3 K (gRest (gQuiet q F))))))) (mk σ fr')) Q) : ∀ (d j n : Nat) (f : Nat → Nat → Int32) (G : SG), j + d = q → n + j = n0 → q + 1 < n0 → gRest G = gRest (gQuiet j F) → RS f K G → eqS scS fr f → Ok (H_X12_goes_113 N n x1 (n32 (gnx G)) (n32 (ggo G)) (pre (gsec G)) (mk σ f)) Q := by
  intro d
  induction d with
  | zero =>
    intro j n f G hj hnj hn0 hG hR he
    have ej : j = q := by omega
    subst ej
    have hGI : GI K G := by
      have : GI K (gRest G) := by rw [hG]; exact gRest_I (quiet_I hF hq (Nat.le_refl _))
      exact this
    have eg : ggo G = ggo F := by
      have := congrArg ggo hG
      exact this
    have es : gsec G = gsec F + j := by
      have := congrArg gsec hG
      exact this
    have hfG : Filled K G := by
      have e1 : gcl (gRest G) = gcl (gRest (gQuiet j F)) := congrArg gcl hG
      have e1 : gcl G = gcl F := e1
      have e2 : gnx (gRest G) = gnx (gRest (gQuiet j F)) := congrArg gnx hG
      have e2 : gnx G = gnx F := e2
      intro c hc
      rw [e1, e2]
      exact hfil c hc
    have et : gTick K G = gFall (gL3 K (gS3 K (gRest (gQuiet j F)))) := by
      unfold gTick
      rw [gF3_id hfG, hG]
    refine r_tick hN hK hx1 hO hGI hR (by omega) (by omega) (by omega) (fun f' hR' he' => ?_)
    rw [et] at hR' ⊢
    have := h f' hR' (eqS_tr he he')
    rw [show n0 - (j + 1) = n - 1 by omega] at this
    exact this
  | succ d ih =>
    intro j n f G hj hnj hn0 hG hR he
    have hGI : GI K G := by
      have : GI K (gRest G) := by rw [hG]; exact gRest_I (quiet_I hF hq (by omega))
      exact this
    have eg : ggo (gRest G) = ggo (gRest (gQuiet j F)) := congrArg ggo hG
    have eg : ggo G = ggo F := eg
    have es : gsec (gRest G) = gsec (gRest (gQuiet j F)) := congrArg gsec hG
    have es : gsec G = gsec F + j := es
    have hfG : Filled K G := by
      have e1 : gcl (gRest G) = gcl (gRest (gQuiet j F)) := congrArg gcl hG
      have e1 : gcl G = gcl F := e1
      have e2 : gnx (gRest G) = gnx (gRest (gQuiet j F)) := congrArg gnx hG
      have e2 : gnx G = gnx F := e2
      intro c hc
      rw [e1, e2]
      exact hfil c hc
    have hst : Still K G := by
      have h1 : Still K (gRest (gQuiet j F)) := still_R (still_q hq (by omega))
      rw [← hG] at h1
      exact h1
    have et : gTick K G = gRest (gQuiet (j + 1) F) := by
      rw [still_tick hfG hst, gRest_Q, hG, gRest_Q, gQuiet_q, gRest_Q]
    refine r_tick hN hK hx1 hO hGI hR (by omega) (by omega) (by omega) (fun f' hR' he' => ?_)
    rw [et] at hR' ⊢
    exact ih (j + 1) (n - 1) f' (gRest (gQuiet (j + 1) F)) (by omega) (by omega) hn0 rfl hR' (eqS_tr he he')
/-- the reference's seconds of a turn -/
theorem r_turn {q n0 : Nat} {G : SG} (hN : 10000 ≤ N) (hK : KOK K) (hx1 : x1 = oI (kO K)) (hO : ∀ b, kO K = some b → b < 6) (hG : GI K G) (hgo : ggo G < hn (kD K)) (hsec : gsec G + q < 100000) (hq : QT K (gF3 K G) q) {fr : Nat → Nat → Int32} (hn0 : q + 1 < n0) (hR : RS fr K G) (h : ∀ fr', RS fr' K (gTurn K q G) → eqS scS fr fr' → Ok (H_X12_goes_113 N (n0 - (q + 1)) x1 (n32 (gnx (gTurn K q G))) (n32 (ggo (gTurn K q G))) (pre (gsec (gTurn K q G))) (mk σ fr')) Q) : Ok (H_X12_goes_113 N n0 x1 (n32 (gnx G)) (n32 (ggo G)) (pre (gsec G)) (mk σ fr)) Q := by
  have hF : GI K (gF3 K G) := gFill_I hK (by omega) (gFill_I hK (by omega) (gFill_I hK (by omega) hG))
  have eg : ggo (gF3 K G) = ggo G := by
    unfold gF3
    rw [gFill_sec.2, gFill_sec.2, gFill_sec.2]
  have es : gsec (gF3 K G) = gsec G := by
    unfold gF3
    rw [gFill_sec.1, gFill_sec.1, gFill_sec.1]
  by_cases h0 : q = 0
  · subst h0
    refine r_tick hN hK hx1 hO hG hR hgo (by omega) (by omega) (fun f' hR' he' => ?_)
    rw [turn_0] at hR' ⊢
    exact h f' hR' he'
  · refine r_tick hN hK hx1 hO hG hR hgo (by omega) (by omega) (fun f' hR' he' => ?_)
    have hst : Still K (gF3 K G) := by
      have := still_q hq (show 0 < q by omega)
      rwa [gQuiet_0] at this
    have et : gTick K G = gRest (gQuiet 1 (gF3 K G)) := by rw [← tick_fill, still_tick gF3_filled hst]
    rw [et] at hR' ⊢
    exact r_qticks (n0 := n0) hN hK hx1 hO hF gF3_filled (by omega) (by omega) hq (fr := fr) h (q - 1) 1 (n0 - 1) f' (gRest (gQuiet 1 (gF3 K G))) (by omega) (by omega) hn0 rfl hR' he'
end RTURN
theorem gStop_go {K : SP} {c : Nat} {G : SG} : gStop K c G = G ∨ ggo (gStop K c G) = ggo G + 1 := by
  unfold gStop
  cases gcl G c with
  | none => exact Or.inl rfl
  | some l =>
    simp only
    cases bst (gLim K G l) (gOk K G) (n32 (gcp G c)) (hm (kD K)) with
    | none => exact Or.inl rfl
    | some b => exact Or.inr rfl
theorem gLow_go {K : SP} {c : Nat} {G : SG} : ggo G ≤ ggo (gLow K c G) ∧ (ggo (gLow K c G) = ggo G → gcl (gLow K c G) = gcl G ∧ (∀ c', c' ≠ c → gcp (gLow K c G) c' = gcp G c') ∧ ∀ l, gcl G c = some l → kL K l < gcp G c) := by
  unfold gLow
  cases hcc : gcl G c with
  | none => exact ⟨Nat.le_refl _, fun _ => ⟨rfl, fun _ _ => rfl, fun l hl => by cases hl⟩⟩
  | some l =>
    simp only
    by_cases hp : kL K l < gcp G c
    · rw [if_pos hp]
      exact ⟨Nat.le_refl _, fun _ => ⟨rfl, fun c' hc' => fu_ne hc', fun l' hl' => by cases hl'; exact hp⟩⟩
    · rw [if_neg hp]
      exact ⟨Nat.le_succ _, fun h => absurd h (Nat.succ_ne_self _)⟩
/-- a turn ends some lot's sale -/
theorem turn_go {K : SP} {F : SG} {q : Nat} (hF : GI K F) (hq : QT K F q) : ggo F < ggo (gFall (gL3 K (gS3 K (gRest (gQuiet q F))))) := by
  have hP : ggo (gRest (gQuiet q F)) = ggo F := rfl
  generalize hPd : gRest (gQuiet q F) = P at hP
  show ggo F < ggo (gL3 K (gS3 K P))
  apply Nat.lt_of_not_le
  intro hle
  unfold gL3 gS3 at hle
  have m0 := gStop_go (K := K) (c := 0) (G := P)
  have m1' := gStop_go (K := K) (c := 1) (G := gStop K 0 P)
  have m2 := gStop_go (K := K) (c := 2) (G := gStop K 1 (gStop K 0 P))
  have l0 := gLow_go (K := K) (c := 0) (G := gStop K 2 (gStop K 1 (gStop K 0 P)))
  have l1 := gLow_go (K := K) (c := 1) (G := gLow K 0 (gStop K 2 (gStop K 1 (gStop K 0 P))))
  have l2 := gLow_go (K := K) (c := 2) (G := gLow K 1 (gLow K 0 (gStop K 2 (gStop K 1 (gStop K 0 P)))))
  have ge : ∀ {A B : SG}, (B = A ∨ ggo B = ggo A + 1) → ggo A ≤ ggo B := by
    intro A B h
    rcases h with h | h
    · rw [h]; exact Nat.le_refl _
    · omega
  have g0 := ge m0
  have g1 := ge m1'
  have g2 := ge m2
  have e0 : gStop K 0 P = P := by
    rcases m0 with h | h
    · exact h
    · omega
  rw [e0] at m1' m2 l0 l1 l2 g1 g2 hle
  have e1 : gStop K 1 P = P := by
    rcases m1' with h | h
    · exact h
    · omega
  rw [e1] at m2 l0 l1 l2 g2 hle
  have e2 : gStop K 2 P = P := by
    rcases m2 with h | h
    · exact h
    · omega
  rw [e2] at l0 l1 l2 hle
  have k0 := l0.2 (by omega)
  have k1 := l1.2 (by omega)
  have k2 := l2.2 (by omega)
  obtain ⟨c, l, hc, hl, hev⟩ := hq.2.2
  have hlx := hF.2.2.1 c l hc hl
  have hlP : gcl P c = some l := by rw [← hPd]; exact hl
  have hpP : gcp P c = gcp F c - q := by
    rw [← hPd]
    exact if_pos ⟨hc, by rw [hl]; simp⟩
  have hlow : kL K l < gcp P c := by
    rcases (show c = 0 ∨ c = 1 ∨ c = 2 by omega) with rfl | rfl | rfl
    · exact k0.2.2 l hlP
    · have := k1.2.2 l (by rw [k0.1]; exact hlP)
      rw [k0.2.1 1 (by omega)] at this
      exact this
    · have := k2.2.2 l (by rw [k1.1, k0.1]; exact hlP)
      rw [k1.2.1 2 (by omega), k0.2.1 2 (by omega)] at this
      exact this
  rcases hev with h | ⟨b, hb, h⟩
  · omega
  · have hstop : gStop K c P = P := by
      rcases (show c = 0 ∨ c = 1 ∨ c = 2 by omega) with rfl | rfl | rfl
      · exact e0
      · exact e1
      · exact e2
    have hno : bst (gLim K P l) (gOk K P) (n32 (gcp P c)) (hm (kD K)) = none := by
      cases hbb : bst (gLim K P l) (gOk K P) (n32 (gcp P c)) (hm (kD K)) with
      | none => rfl
      | some b' =>
        have : gStop K c P = gSell K c l b' P := by simp only [gStop, hlP, hbb]
        rw [this] at hstop
        have := congrArg ggo hstop
        exact absurd this (Nat.succ_ne_self _)
    have hbo : ¬ kO K = some b := by
      intro ho
      unfold limX at h
      rw [if_pos ho] at h
      apply h
      have := (hq.2.1 c l hc hl).1
      first | assumption | omega | (simp (disch := omega) only [n32_of, neg_n32_1, n32_nat, n32_lt, n32_le, n32_eq, n32_add, n32_sub, n32_mul, n32_m1, m1_n32, n32_addm1, m1_lt, lt_m1, m1_le, le_m1, m1_add1, ofNat_n32, u2_self, u2_n, mk_I, mk_T, ne_eq, not_true_eq_false, not_false_eq_true, ]; first | done | omega)
    have hokb : gOk K P b = true := by
      unfold gOk
      rw [← hPd, decide_eq_false hbo]
      rfl
    have := bst_none hno b hb hokb
    unfold limX at h
    rw [if_neg hbo, ← hpP] at h
    apply h
    rw [← hPd] at this ⊢
    exact this

section OPSALE
variable {N : Nat} {σ : aSt} {f : pln} {len : Nat} {D : HD} {Y : LY} {s : Bool} {dr : Nat → SR} {st le : Nat → Nat} {ha : Nat → Nat → Nat} {sp nl : Nat → Nat} {rt : Nat → List Ru} {lw : Nat → Nat}
set_option maxHeartbeats 400000 in
theorem op_sale (hN : 100000 ≤ N) (hI : IVx σ f len D Y s dr st le ha sp nl rt lw) : Same σ (F_X11_sale N) (F_X12_sale N) f := by
  have hI0 := hI
  obtain ⟨t, h2, h3, h4, h5, h6, h7, h8⟩ := hI
  have n24 := h3.1.1
  have m6 := h3.1.2.1
  have q6 := h4.1.1
  have e8 := h5.2.1
  have e53 := h5.2.2
  cases s with
  | true =>
    refine same_q (fun Q hQ => ?_)
    unfold F_X11_sale
    with_reducible refine ok_ini ?_ ?_
    · rw [mk_I, e8]
      decide
    refine ok_some (hQ _ _ ?_)
    unfold F_X12_sale
    with_reducible refine ok_ini ?_ ?_
    · rw [mk_I, e53]
      decide
    exact ok_some ⟨rfl, IV_mk hI0⟩
  | false =>
    obtain ⟨y1, σ1, e1, G1, g1, rfl, -, -, -, -, w1, -⟩ := sale_x (f1 := f) hN h3 h4 h5 h8 h3 h8
    have fr1 := w1.2.1
    have H1 : sHall g1 D := sHall_cg h3 (fun a k hk => fr1 a k (nvX (vH hk)) (by omega) (by omega) (by omega) (by omega))
    have T1 : sTxt σ g1 rt lw := sTxt_cg h8 (fun a k hk => fr1 a k (nvX (vX hk)) (by omega) (by omega) (by omega) (by omega))
    obtain ⟨y2, σ2, e2, G, g2, rfl, hy, p1, p2, p3, w2, hR⟩ := sale_x (f1 := g1) hN h3 h4 h5 h8 H1 T1
    have eq := e1.symm.trans e2
    simp only [Option.some.injEq, Prod.mk.injEq] at eq
    have ef : g1 = g2 := mk_inj eq.2
    subst ef
    refine ⟨y1, mk σ g1, e1, ?_⟩
    have hg := all_gone p2 p1
    have hdk := drG_ok p2 p1 p3
    obtain ⟨b8, fr, bp, bo, bl⟩ := w2
    unfold F_X12_sale
    with_reducible refine ok_ipi ?_ ?_
    · rw [mk_I, fr 235 53 (by omega) (by omega) (by omega) (by omega) (by omega)]
      exact e53
    refine ok_oB (ok_mono hR ?_)
    rintro z _ ⟨rfl, g3, rfl, rs, r2⟩
    refine ok_W ?_
    have c37 : g3 235 37 = n32 (hn D) := rs.1.1.1
    have ez : ∀ b, b < 6 → g3 273 b = n32 0 := fun b hb => by
      rw [r2 _ _ (by omega), fr _ _ (by omega) (by omega) (by omega) (by omega) (by omega), (h6.2.2.1 b hb).2, (h6.2.2.2.2 rfl b).2.2]
    refine ok_mono (r_keep (g0 := u2 g3 235 53 1) (rt := rt) (by omega) h3.1 hdk hg ((u2_n (by omega)).trans c37) (fun l hl => (u2_n (by omega)).trans (rs.1.1.2.2.1 3 l (by omega) hl)) (fun l hl => ⟨(u2_n (by omega)).trans (rs.2.2.2.2.1 l hl).1, (u2_n (by omega)).trans (rs.2.2.2.2.1 l hl).2⟩) (fun l hl => ?_) (fun b hb => (u2_n (by omega)).trans (ez b hb))) ?_
    · obtain ⟨z0, z1, z2, z3⟩ := rs.2.2.2.2.2 l _ (hg l hl)
      exact ⟨(u2_n (by omega)).trans z0, (u2_n (by omega)).trans z1, (u2_n (by omega)).trans z2, (u2_n (by omega)).trans z3⟩
    rintro z _ ⟨rfl, g4, rfl, k1, k2, k3, k4, k5⟩
    refine ⟨eq.1.trans hy, IV_mk (len := len) (D := D) (Y := Y) (s := true) (dr := drG G) (st := sN D (rt 0)) (le := eN D (rt 0)) (ha := gha G) (sp := gsp G) (nl := gnl G) (rt := rt) (lw := lw) ?_⟩
    have xr : ∀ a k, a < 235 → g4 a k = g1 a k := fun a k p => by rw [k1 _ _ (by omega) (by omega), u2_n (by omega), r2 _ _ (by omega)]
    have fr4 : ∀ a k, ¬ scX a → ¬ (101 ≤ a ∧ a < 147) → ¬ (193 ≤ a ∧ a ≤ 221) → ¬ (223 ≤ a ∧ a ≤ 234 ∧ (k = 3 ∨ k = 5 ∨ a % 2 = 0)) → ¬ (a = 0 ∧ k = 8) → ¬ (a = 235 ∧ k = 53) → ¬ (271 ≤ a ∧ a ≤ 293) → g4 a k = f a k := fun a k c1 c2 c3 c4 c5 c6 c7 => by rw [k1 _ _ (by omega) (by omega), u2_n (by omega), r2 _ _ (by omega), fr a k c1 c2 c3 c4 c5]
    refine ⟨sTape_cg t (fun a k hk => fr4 a k (nvX (vT hk)) (by omega) (by omega) (by omega) (by omega) (by omega) (by omega)), sPl_cg h2 (fun a k hk => fr4 a k (nvX (vL hk)) (by omega) (by omega) (by omega) (by omega) (by omega) (by omega)), sHall_cg h3 (fun a k hk => fr4 a k (nvX (vH hk)) (by omega) (by omega) (by omega) (by omega) (by omega) (by omega)), ⟨h4.1, ?_, ?_, fun v hv => ?_⟩, ⟨?_, ?_, ?_⟩, ⟨fun b hb => ?_, fun b k hb hk => ?_, fun b hb => ⟨?_, ?_⟩, fun b hb => ?_, fun q => Bool.noConfusion q⟩, fun _ => ⟨hdk, fun l hl => ⟨?_, k2 l hl⟩, fun v hv => ?_⟩, sTxt_cg h8 (fun a k hk => fr4 a k (nvX (vX hk)) (by omega) (by omega) (by omega) (by omega) (by omega) (by omega))⟩
    · exact (fr4 _ _ (by omega) (by omega) (by omega) (by omega) (by omega) (by omega) (by omega)).trans h4.2.1
    · exact (fr4 _ _ (by omega) (by omega) (by omega) (by omega) (by omega) (by omega) (by omega)).trans h4.2.2.1
    · obtain ⟨⟨a1, a2, a3⟩, a4, a5, a6⟩ := h4.2.2.2 v hv
      exact ⟨⟨(fr4 _ _ (by omega) (by omega) (by omega) (by omega) (by omega) (by omega) (by omega)).trans a1, (fr4 _ _ (by omega) (by omega) (by omega) (by omega) (by omega) (by omega) (by omega)).trans a2, (fr4 _ _ (by omega) (by omega) (by omega) (by omega) (by omega) (by omega) (by omega)).trans a3⟩, (fr4 _ _ (by omega) (by omega) (by omega) (by omega) (by omega) (by omega) (by omega)).trans a4, (fr4 _ _ (by omega) (by omega) (by omega) (by omega) (by omega) (by omega) (by omega)).trans a5, (fr4 _ _ (by omega) (by omega) (by omega) (by omega) (by omega) (by omega) (by omega)).trans a6⟩
    · rw [fr4 _ _ (by omega) (by omega) (by omega) (by omega) (by omega) (by omega) (by omega), fr4 235 52 (by omega) (by omega) (by omega) (by omega) (by omega) (by omega) (by omega)]
      exact h5.1
    · exact (xr _ _ (by omega)).trans b8
    · rw [k1 _ _ (by omega) (by omega), u2_self]
      rfl
    · have hb' : b < hm D := hb
      obtain ⟨⟨a1, a2⟩, a3, a4⟩ := bp b hb'
      exact ⟨GI_PB (mkK_ok (rt := rt) (o := none) h3.1).1 p2 hb, ⟨(xr _ _ (by omega)).trans a1, fun k hk => (xr _ _ (by omega)).trans (a2 k hk)⟩, (xr _ _ (by omega)).trans a3, (xr _ _ (by omega)).trans a4⟩
    · rw [k4 _ (by omega), u2_n (by omega)]
      exact rs.2.1.1 b k hb hk
    · rw [k5 _ hb, u2_n (by omega)]
      exact rs.2.1.2 b hb
    · rw [k3 b hb, p2.2.2.2.2.2.2.2.1 b]
      have hnx : gnx G = hn D := by
        have u1 := p2.1
        have u2 := p2.2.1
        have u3 : gnx G ≤ hn D := u1
        omega
      rw [cntb_stop (n := hn D) (m := 24) (fun l hl => p2.2.2.2.2.2.1 l (by omega)) n24]
    · have a := p2.2.2.2.2.2.2.1.2.2 b hb
      refine ⟨a.1, a.2, ?_⟩
      rw [p2.2.2.2.2.2.2.2.1 b]
      refine cntb_zero (fun l => ?_) 24
      cases er : gre G l with
      | none => rfl
      | some r =>
        cases r with
        | mk o c =>
          cases o with
          | none => rfl
          | some b' =>
            have hb2 : b' < hm D := (p2.2.2.2.2.2.2.2.2 l _ er).1 b' rfl
            have hb' : hm D ≤ b := hb
            exact beq_false_of_ne (by omega)
    · obtain ⟨a0, a1, a2, a3, a4, a5, a6, a7⟩ := bo l hl
      exact ⟨(xr _ _ (by omega)).trans a0, (xr _ _ (by omega)).trans a1, (xr _ _ (by omega)).trans a2, (xr _ _ (by omega)).trans a3, (xr _ _ (by omega)).trans a4, (xr _ _ (by omega)).trans a5, (xr _ _ (by omega)).trans a6, (xr _ _ (by omega)).trans a7⟩
    · obtain ⟨b1, b2, b3⟩ := bl v hv
      exact ⟨(xr _ _ (by omega)).trans b1, (xr _ _ (by omega)).trans b2, rowL_cg b3 (fun k => xr _ _ (by omega))⟩
end OPSALE

/-! ===== the whole run ===== -/
def aChk2 (σ : aSt) : Bool := aP σ 1 2 == some 2 && (aP σ 11 5 == some 15 && ((List.range 6).all (fun b => aP σ (47 + 9 * b) 3 == some (49 + 9 * b)) && ([2, 37, 43, 48, 52, 53].all (fun k => aI σ 235 k == 0) && aI σ 235 17 == -1)))
def aBoot2 : Bool := match aBoot with
  | some σ => aChk2 σ
  | none => false
theorem aBoot2_ok : aBoot2 = true := by decide +kernel
def aMath2 : Prop := ∀ (xs : Nat → Int32) (L : Nat), L ≤ 3072 → ∀ σ : aSt, Gr σ → In0 σ → aChk2 σ = true → ∃ (N n : Nat) (q : Int32 × aSt), H_L_law_18 xs L N n 0 σ = some q ∧ q.1 = 1
theorem aStart2 : ∃ σ1 σ2 : aSt, (∀ (xs : Nat → Int32) (L : Nat), Cal xs L 93 [.ref 0] (aNew aS0' 11 9) none σ1 ∧ Cal xs L 117 [.ref 235] (aNew σ1 12 80) none σ2) ∧ σ1.1 = 235 ∧ Gr σ2 ∧ In0 σ2 ∧ aChk2 σ2 = true := by
  have h := aBoot_ok
  have h' := aBoot2_ok
  unfold aBootOK at h
  unfold aBoot2 at h'
  cases e : aBoot with
  | none => rw [e] at h; cases h
  | some σ2 =>
    rw [e] at h h'
    have hg := aChk_gr h
    unfold aBoot at e
    split at e
    · next σ1 h1 =>
      split at e
      · next σ2' h2 =>
        cases e
        refine ⟨σ1, σ2, fun xs L => ⟨aCS_ev (by decide) h1, aCS_ev (by decide) h2⟩, ?_, hg.1, hg.2, h'⟩
        exact aBoot_one h1
      · cases e
    · cases e
theorem aLaw_of2 (HM : aMath2) (xs : Nat → Int32) (L : Nat) (hL : L ≤ 3072) : ∃ (n : Nat) (σ' : aSt), aRun xs L n 188 0 (aEnt 4 [.float 0]) [] aS0' = some (some (.int 1), σ') ∧ σ'.1 ≤ 600000 ∧ σ'.2.1 ≤ 7302250 := by
  obtain ⟨σ1, σ2, hc, hn1, hG, hI, hI2⟩ := aStart2
  obtain ⟨hc1, hc2⟩ := hc xs L
  obtain ⟨N, n, q, hq, h1⟩ := HM xs L hL σ2 hG hI hI2
  obtain ⟨hev, hG2⟩ := TH_L_law_18 xs L N n 0 σ2 q hq hG
  have he : Ev xs L 188 0 [.float 0, aU, aU, aU] [] aS0' (some (.int 1)) q.2 := by
    rw [h1] at hev
    refine ev_newO (a := 0) rfl rfl ?_
    refine ev_dupR rfl ?_
    refine ev_callI (as := []) (r := [.ref 0]) rfl rfl rfl rfl (Nat.le_of_ble_eq_true rfl) (Nat.le_of_ble_eq_true rfl) hc1 ?_
    refine ev_astore (ls' := [.float 0, .ref 0, aU, aU]) rfl (Nat.le_of_ble_eq_true rfl) rfl ?_
    refine ev_newO (a := 235) rfl hn1 ?_
    refine ev_dupR rfl ?_
    refine ev_callI (as := []) (r := [.ref 235]) rfl rfl rfl rfl (Nat.le_of_ble_eq_true rfl) (Nat.le_of_ble_eq_true rfl) hc2 ?_
    refine ev_astore (ls' := [.float 0, .ref 0, .ref 235, aU]) rfl (Nat.le_of_ble_eq_true rfl) rfl ?_
    refine ev_push rfl ?_
    exact ev_istore (ls' := [.float 0, .ref 0, .ref 235, .int 0]) rfl (Nat.le_of_ble_eq_true rfl) rfl hev
  obtain ⟨N', hN'⟩ := he
  exact ⟨N', q.2, hN' N' (Nat.le_refl _), by rw [hG2.1]; decide, by rw [hG2.2.2.2.2]; decide⟩
/-- what holds between two calls -/
def Inv (τ : aSt) : Prop := (∃ W, IV τ (aI τ) W) ∧ KY τ
theorem toI {X R : aSt → Option (Int32 × aSt)} {τ : aSt} (hK : KY τ) (h : Same τ X R (aI τ)) : Ok (X τ) (fun y σ1 => Ok (R σ1) (fun z σ2 => y = z ∧ Inv σ2)) := by
  refine ok_mono h (fun y σ1 h1 => ok_mono h1 (fun z σ2 h2 => ?_))
  obtain ⟨e, f', W, rfl, hI⟩ := h2
  exact ⟨e, ⟨W, hI⟩, hK⟩
theorem toI2 {X R : aSt → Option (Int32 × aSt)} {τ : aSt} (h : Same2 τ X R (aI τ)) : Ok (X τ) (fun y σ1 => Ok (R σ1) (fun z σ2 => y = z ∧ Inv σ2)) := by
  refine ok_mono h (fun y σ1 h1 => ok_mono h1 (fun z σ2 h2 => ?_))
  obtain ⟨e, σ', f', W, rfl, hI, hK⟩ := h2
  exact ⟨e, ⟨W, hI⟩, hK⟩
theorem cmpL {L i : Nat} (hL : L ≤ 3072) (hi : i ≤ 4000) : (n32 L - 6 < n32 i) ↔ L < i + 6 := by
  by_cases h : 6 ≤ L
  · rw [show (6 : Int32) = n32 6 from rfl, n32_sub h, n32_lt (by omega) (by omega)]
    omega
  · have hd : ∀ L, L < 6 → n32 L - 6 < 0 := by decide +kernel
    have h1 := hd L (by omega)
    have h2 : (0 : Int32) ≤ n32 i := by
      rw [show (0 : Int32) = n32 0 from rfl, n32_le (by omega) (by omega)]
      omega
    exact ⟨fun _ => by omega, fun _ => Int32.lt_of_lt_of_le h1 h2⟩
theorem law_loop (xs : Nat → Int32) {L N : Nat} (hL : L ≤ 3072) (hN : 100000 ≤ N) : ∀ (n i : Nat) (τ : aSt), L < i + 6 * n → i ≤ L → Inv τ → Ok (H_L_law_18 xs L N n (n32 i) τ) (fun y _ => y = 1) := by
  intro n
  induction n with
  | zero => intro i τ h1 h2; omega
  | succ n ih =>
    intro i τ h1 h2 hInv
    rw [H_L_law_18, ofNat_n32]
    by_cases hc : L < i + 6
    · refine ok_ip ((cmpL hL (by omega)).mpr hc) ?_
      rw [cO_t nar_b1]
      exact ok_some rfl
    · refine ok_in (fun q => hc ((cmpL hL (by omega)).mp q)) ?_
      have c0 : ¬ (n32 i < 0 ∨ L ≤ (n32 i).toNatClampNeg) := by first | assumption | omega | (simp (disch := omega) only [n32_of, neg_n32_1, n32_nat, n32_lt, n32_le, n32_eq, n32_add, n32_sub, n32_mul, n32_m1, m1_n32, n32_addm1, m1_lt, lt_m1, m1_le, le_m1, m1_add1, ofNat_n32, u2_self, u2_n, mk_I, mk_T, ne_eq, not_true_eq_false, not_false_eq_true, ]; first | done | omega)
      have c1 : ¬ (n32 i + 1 < 0 ∨ L ≤ (n32 i + 1).toNatClampNeg) := by first | assumption | omega | (simp (disch := omega) only [n32_of, neg_n32_1, n32_nat, n32_lt, n32_le, n32_eq, n32_add, n32_sub, n32_mul, n32_m1, m1_n32, n32_addm1, m1_lt, lt_m1, m1_le, le_m1, m1_add1, ofNat_n32, u2_self, u2_n, mk_I, mk_T, ne_eq, not_true_eq_false, not_false_eq_true, ]; first | done | omega)
      have c2 : ¬ (n32 i + 2 < 0 ∨ L ≤ (n32 i + 2).toNatClampNeg) := by first | assumption | omega | (simp (disch := omega) only [n32_of, neg_n32_1, n32_nat, n32_lt, n32_le, n32_eq, n32_add, n32_sub, n32_mul, n32_m1, m1_n32, n32_addm1, m1_lt, lt_m1, m1_le, le_m1, m1_add1, ofNat_n32, u2_self, u2_n, mk_I, mk_T, ne_eq, not_true_eq_false, not_false_eq_true, ]; first | done | omega)
      have c3 : ¬ (n32 i + 3 < 0 ∨ L ≤ (n32 i + 3).toNatClampNeg) := by first | assumption | omega | (simp (disch := omega) only [n32_of, neg_n32_1, n32_nat, n32_lt, n32_le, n32_eq, n32_add, n32_sub, n32_mul, n32_m1, m1_n32, n32_addm1, m1_lt, lt_m1, m1_le, le_m1, m1_add1, ofNat_n32, u2_self, u2_n, mk_I, mk_T, ne_eq, not_true_eq_false, not_false_eq_true, ]; first | done | omega)
      have c4 : ¬ (n32 i + 4 < 0 ∨ L ≤ (n32 i + 4).toNatClampNeg) := by first | assumption | omega | (simp (disch := omega) only [n32_of, neg_n32_1, n32_nat, n32_lt, n32_le, n32_eq, n32_add, n32_sub, n32_mul, n32_m1, m1_n32, n32_addm1, m1_lt, lt_m1, m1_le, le_m1, m1_add1, ofNat_n32, u2_self, u2_n, mk_I, mk_T, ne_eq, not_true_eq_false, not_false_eq_true, ]; first | done | omega)
      have c5 : ¬ (n32 i + 5 < 0 ∨ L ≤ (n32 i + 5).toNatClampNeg) := by first | assumption | omega | (simp (disch := omega) only [n32_of, neg_n32_1, n32_nat, n32_lt, n32_le, n32_eq, n32_add, n32_sub, n32_mul, n32_m1, m1_n32, n32_addm1, m1_lt, lt_m1, m1_le, le_m1, m1_add1, ofNat_n32, u2_self, u2_n, mk_I, mk_T, ne_eq, not_true_eq_false, not_false_eq_true, ]; first | done | omega)
      have next : ∀ σ2, Inv σ2 → Ok (J_L_law_765 xs L N (H_L_law_18 xs L N n) (n32 i) σ2) (fun y _ => y = 1) := by
        intro σ2 h
        unfold J_L_law_765
        rw [show (6 : Int32) = n32 6 from rfl, n32_add]
        exact ih (i + 6) σ2 (by omega) (by omega) h
      have hInv0 := hInv
      obtain ⟨⟨W, hI⟩, hK⟩ := hInv
      refine ok_cO c0 ?_
      refine ok_if (fun _ => ?_) (fun _ => ?_)
      · skip
        refine ok_cO c1 ?_
        refine ok_cO c2 ?_
        refine ok_cO c3 ?_
        refine ok_cO c4 ?_
        refine ok_cO c5 ?_
        refine ok_oB (ok_mono (toI hK (op_feed (by omega) _ _ _ _ _ hI)) (fun y σ1 g1 => ?_))
        refine ok_cO c1 ?_
        refine ok_cO c2 ?_
        refine ok_cO c3 ?_
        refine ok_cO c4 ?_
        refine ok_cO c5 ?_
        refine ok_oB (ok_mono g1 (fun z σ2 g2 => ?_))
        exact ok_ip g2.1 (next σ2 g2.2)
      refine ok_if (fun _ => ?_) (fun _ => ?_)
      · skip
        refine ok_cO c1 ?_
        refine ok_oB (ok_mono (toI hK (op_back  _ hI)) (fun y σ1 g1 => ?_))
        refine ok_cO c1 ?_
        refine ok_oB (ok_mono g1 (fun z σ2 g2 => ?_))
        exact ok_ip g2.1 (next σ2 g2.2)
      refine ok_if (fun _ => ?_) (fun _ => ?_)
      · skip
        refine ok_cO c1 ?_
        refine ok_oB (ok_mono (toI2 (op_read (by omega) _ hK hI)) (fun y σ1 g1 => ?_))
        refine ok_cO c1 ?_
        refine ok_oB (ok_mono g1 (fun z σ2 g2 => ?_))
        exact ok_ip g2.1 (next σ2 g2.2)
      refine ok_if (fun _ => ?_) (fun _ => ?_)
      · skip
        refine ok_oB (ok_mono (toI hK (op_place   hI)) (fun y σ1 g1 => ?_))
        refine ok_oB (ok_mono g1 (fun z σ2 g2 => ?_))
        exact ok_ip g2.1 (next σ2 g2.2)
      refine ok_if (fun _ => ?_) (fun _ => ?_)
      · skip
        refine ok_cO c1 ?_
        refine ok_cO c2 ?_
        refine ok_cO c3 ?_
        refine ok_cO c4 ?_
        refine ok_cO c5 ?_
        refine ok_oB (ok_mono (toI hK (op_lot  _ _ _ _ _ hI)) (fun y σ1 g1 => ?_))
        refine ok_cO c1 ?_
        refine ok_cO c2 ?_
        refine ok_cO c3 ?_
        refine ok_cO c4 ?_
        refine ok_cO c5 ?_
        refine ok_oB (ok_mono g1 (fun z σ2 g2 => ?_))
        exact ok_ip g2.1 (next σ2 g2.2)
      refine ok_if (fun _ => ?_) (fun _ => ?_)
      · skip
        refine ok_cO c1 ?_
        refine ok_cO c2 ?_
        refine ok_oB (ok_mono (toI hK (op_buyer (by omega) _ _ hI)) (fun y σ1 g1 => ?_))
        refine ok_cO c1 ?_
        refine ok_cO c2 ?_
        refine ok_oB (ok_mono g1 (fun z σ2 g2 => ?_))
        exact ok_ip g2.1 (next σ2 g2.2)
      refine ok_if (fun _ => ?_) (fun _ => ?_)
      · skip
        refine ok_cO c1 ?_
        refine ok_cO c2 ?_
        refine ok_cO c3 ?_
        refine ok_oB (ok_mono (toI hK (op_want  _ _ _ hI)) (fun y σ1 g1 => ?_))
        refine ok_cO c1 ?_
        refine ok_cO c2 ?_
        refine ok_cO c3 ?_
        refine ok_oB (ok_mono g1 (fun z σ2 g2 => ?_))
        exact ok_ip g2.1 (next σ2 g2.2)
      refine ok_if (fun _ => ?_) (fun _ => ?_)
      · skip
        refine ok_cO c1 ?_
        refine ok_cO c2 ?_
        refine ok_cO c3 ?_
        refine ok_oB (ok_mono (toI hK (op_lorry (by omega) _ _ _ hI)) (fun y σ1 g1 => ?_))
        refine ok_cO c1 ?_
        refine ok_cO c2 ?_
        refine ok_cO c3 ?_
        refine ok_oB (ok_mono g1 (fun z σ2 g2 => ?_))
        exact ok_ip g2.1 (next σ2 g2.2)
      refine ok_if (fun _ => ?_) (fun _ => ?_)
      · skip
        refine ok_oB (ok_mono (toI hK (op_sale (by omega)  hI)) (fun y σ1 g1 => ?_))
        refine ok_oB (ok_mono g1 (fun z σ2 g2 => ?_))
        exact ok_ip g2.1 (next σ2 g2.2)
      refine ok_if (fun _ => ?_) (fun _ => ?_)
      · skip
        refine ok_oB (ok_mono (toI hK (op_day (by omega)  hI)) (fun y σ1 g1 => ?_))
        refine ok_oB (ok_mono g1 (fun z σ2 g2 => ?_))
        exact ok_ip g2.1 (next σ2 g2.2)
      refine ok_if (fun _ => ?_) (fun _ => ?_)
      · skip
        refine ok_cO c1 ?_
        refine ok_cO c2 ?_
        refine ok_oB (ok_mono (toI hK (op_told (by omega) _ _ hI)) (fun y σ1 g1 => ?_))
        refine ok_cO c1 ?_
        refine ok_cO c2 ?_
        refine ok_oB (ok_mono g1 (fun z σ2 g2 => ?_))
        exact ok_ip g2.1 (next σ2 g2.2)
      refine ok_if (fun _ => ?_) (fun _ => ?_)
      · skip
        refine ok_cO c1 ?_
        refine ok_cO c2 ?_
        refine ok_oB (ok_mono (toI hK (op_limit (by omega) _ _ hI)) (fun y σ1 g1 => ?_))
        refine ok_cO c1 ?_
        refine ok_cO c2 ?_
        refine ok_oB (ok_mono g1 (fun z σ2 g2 => ?_))
        exact ok_ip g2.1 (next σ2 g2.2)
      refine ok_if (fun _ => ?_) (fun _ => ?_)
      · skip
        refine ok_cO c1 ?_
        refine ok_cO c2 ?_
        refine ok_oB (ok_mono (toI hK (op_rule (by omega) _ _ hI)) (fun y σ1 g1 => ?_))
        refine ok_cO c1 ?_
        refine ok_cO c2 ?_
        refine ok_oB (ok_mono g1 (fun z σ2 g2 => ?_))
        exact ok_ip g2.1 (next σ2 g2.2)
      refine ok_if (fun _ => ?_) (fun _ => ?_)
      · skip
        refine ok_cO c1 ?_
        refine ok_cO c2 ?_
        refine ok_oB (ok_mono (toI hK (op_bought (by omega) _ _ hI)) (fun y σ1 g1 => ?_))
        refine ok_cO c1 ?_
        refine ok_cO c2 ?_
        refine ok_oB (ok_mono g1 (fun z σ2 g2 => ?_))
        exact ok_ip g2.1 (next σ2 g2.2)
      refine ok_if (fun _ => ?_) (fun _ => ?_)
      · skip
        refine ok_cO c1 ?_
        refine ok_oB (ok_mono (toI hK (op_last  _ hI)) (fun y σ1 g1 => ?_))
        refine ok_cO c1 ?_
        refine ok_oB (ok_mono g1 (fun z σ2 g2 => ?_))
        exact ok_ip g2.1 (next σ2 g2.2)
      refine ok_if (fun _ => ?_) (fun _ => ?_)
      · skip
        refine ok_cO c1 ?_
        refine ok_oB (ok_mono (toI hK (op_gets (by omega) _ hI)) (fun y σ1 g1 => ?_))
        refine ok_cO c1 ?_
        refine ok_oB (ok_mono g1 (fun z σ2 g2 => ?_))
        exact ok_ip g2.1 (next σ2 g2.2)
      refine ok_if (fun _ => ?_) (fun _ => ?_)
      · skip
        refine ok_cO c1 ?_
        refine ok_oB (ok_mono (toI hK (op_sum (by omega) _ hI)) (fun y σ1 g1 => ?_))
        refine ok_cO c1 ?_
        refine ok_oB (ok_mono g1 (fun z σ2 g2 => ?_))
        exact ok_ip g2.1 (next σ2 g2.2)
      refine ok_if (fun _ => ?_) (fun _ => ?_)
      · skip
        refine ok_cO c1 ?_
        refine ok_oB (ok_mono (toI hK (op_without (by omega) _ hI)) (fun y σ1 g1 => ?_))
        refine ok_cO c1 ?_
        refine ok_oB (ok_mono g1 (fun z σ2 g2 => ?_))
        exact ok_ip g2.1 (next σ2 g2.2)
      refine ok_if (fun _ => ?_) (fun _ => ?_)
      · skip
        refine ok_cO c1 ?_
        refine ok_cO c2 ?_
        refine ok_oB (ok_mono (toI hK (op_load (by omega) _ _ hI)) (fun y σ1 g1 => ?_))
        refine ok_cO c1 ?_
        refine ok_cO c2 ?_
        refine ok_oB (ok_mono g1 (fun z σ2 g2 => ?_))
        exact ok_ip g2.1 (next σ2 g2.2)
      refine ok_if (fun _ => ?_) (fun _ => ?_)
      · skip
        refine ok_cO c1 ?_
        refine ok_oB (ok_mono (toI hK (op_stays (by omega) _ hI)) (fun y σ1 g1 => ?_))
        refine ok_cO c1 ?_
        refine ok_oB (ok_mono g1 (fun z σ2 g2 => ?_))
        exact ok_ip g2.1 (next σ2 g2.2)
      refine ok_if (fun _ => ?_) (fun _ => ?_)
      · skip
        refine ok_cO c1 ?_
        refine ok_oB (ok_mono (toI hK (op_count  _ hI)) (fun y σ1 g1 => ?_))
        refine ok_cO c1 ?_
        refine ok_oB (ok_mono g1 (fun z σ2 g2 => ?_))
        exact ok_ip g2.1 (next σ2 g2.2)
      exact next τ hInv0
theorem inv_0 {σ : aSt} (hG : Gr σ) (h0 : In0 σ) (hc : aChk2 σ = true) : Inv σ := by
  unfold aChk2 at hc
  simp only [Bool.and_eq_true, beq_iff_eq, List.all_eq_true, List.mem_range, List.mem_cons, List.not_mem_nil, or_false] at hc
  obtain ⟨p1, p2, p3, p4, p5⟩ := hc
  obtain ⟨hz, hk⟩ := h0
  have z : ∀ a k, a ∈ aSm → k < (aSHl.getD a (0, 0)).2 → ¬ (a = 1 ∧ k = 1) → a ≠ 235 → aI σ a k = 0 := by
    intro a k h1 h2 h3 h4
    rw [hz a h1 k h2]
    unfold aI0
    rw [if_neg h3, if_neg (fun q => h4 q.1)]
  have m1' : aI σ 1 1 = -1 := by
    rw [hz 1 (by decide) 1 (by decide)]
    rfl
  have t1 : aTxt σ 1 2 = 2 := by unfold aTxt; rw [p1]; rfl
  have tw : ∀ w, w < 7 → txW σ w = (if w = 0 then 15 else 49 + 9 * (w - 1)) := by
    intro w hw
    unfold txW aTxt
    by_cases e : w = 0
    · rw [if_pos e, if_pos e, p2]; rfl
    · rw [if_neg e, if_neg e, p3 (w - 1) (by omega)]; rfl
  have xt : ∀ t, isTx t → XT (aI σ) t [] := by
    intro t ht
    have key : ∀ t, t ∈ [2, 15, 49, 58, 67, 76, 85, 94] → t ∈ aSm ∧ 6 < (aSHl.getD t (0, 0)).2 ∧ t ≠ 1 ∧ t ≠ 235 := by decide +kernel
    obtain ⟨k1, k2, k3, k4⟩ := key t ht
    exact ⟨z t 0 k1 (by omega) (fun q => k3 q.1) k4, 0, by omega, z t 6 k1 k2 (fun q => k3 q.1) k4, fun r u hu => by cases hu⟩
  have itx : ∀ w, w < 7 → isTx (if w = 0 then 15 else 49 + 9 * (w - 1)) := by unfold isTx; decide +kernel
  have z243 : ∀ w, w < 7 → aI σ 243 w = 0 := fun w hw => z 243 w (by decide) (Nat.lt_of_lt_of_le hw (by decide)) (by omega) (by omega)
  have z244 : ∀ w, w < 14 → aI σ 244 w = 0 := fun w hw => z 244 w (by decide) (Nat.lt_of_lt_of_le hw (by decide)) (by omega) (by omega)
  have zl : ∀ k, k < 6 → aI σ 14 k = 0 ∧ aI σ 267 k = 0 := fun k hk => ⟨z 14 k (by decide) (Nat.lt_of_lt_of_le hk (by decide)) (by omega) (by omega), z 267 k (by decide) (Nat.lt_of_lt_of_le hk (by decide)) (by omega) (by omega)⟩
  have zw : ∀ b k, b < 6 → k < 6 → aI σ (47 + 9 * b + 1) k = 0 ∧ aI σ 266 (6 * b + k) = 0 ∧ aI σ 271 (6 * b + k) = 0 := by
    intro b k hb hk
    have key : ∀ b, b < 6 → 47 + 9 * b + 1 ∈ aSm ∧ 6 ≤ (aSHl.getD (47 + 9 * b + 1) (0, 0)).2 := by decide +kernel
    exact ⟨z _ k (key b hb).1 (Nat.lt_of_lt_of_le hk (key b hb).2) (by omega) (by omega), z 266 _ (by decide) (Nat.lt_of_lt_of_le (show 6 * b + k < 36 by omega) (by decide)) (by omega) (by omega), z 271 _ (by decide) (Nat.lt_of_lt_of_le (show 6 * b + k < 36 by omega) (by decide)) (by omega) (by omega)⟩
  have zs : ∀ b, b < 6 → aI σ 272 b = 0 ∧ aI σ 273 b = 0 := fun b hb => ⟨z 272 b (by decide) (Nat.lt_of_lt_of_le hb (by decide)) (by omega) (by omega), z 273 b (by decide) (Nat.lt_of_lt_of_le hb (by decide)) (by omega) (by omega)⟩
  refine ⟨⟨(0, (0, 0, fun _ _ => 0, fun _ => 0, fun _ _ => 0, fun _ => 0, fun _ => 0), (0, fun _ => 0, fun _ => 0, fun _ => 0), false, fun _ => (none, 0, 0, 0), fun _ => 0, fun _ => 0, fun _ _ => 0, fun _ => 0, fun _ => 0, fun _ => [], fun _ => 0), ?_⟩, fun k hk' => ?_⟩
  · refine ⟨⟨by omega, z 1 0 (by decide) (by decide) (by omega) (by omega), p4 2 (by omega), fun j hj => absurd hj (Nat.not_lt_zero j)⟩, m1'.trans p5.symm, ⟨⟨Nat.zero_le _, Nat.zero_le _, fun i hi => absurd hi (Nat.not_lt_zero i), fun b hb => absurd hb (Nat.not_lt_zero b), fun _ _ _ _ => Nat.zero_le _⟩, ⟨z 11 1 (by decide) (by decide) (by omega) (by omega), z 11 3 (by decide) (by decide) (by omega) (by omega), fun j i _ hi => absurd hi (Nat.not_lt_zero i), fun k hk => (zl k hk).1, fun b hb => absurd hb (Nat.not_lt_zero b), fun b k hb hk => (zw b k hb hk).1⟩, ⟨p4 37 (by omega), p4 43 (by omega), fun j i _ hi => absurd hi (Nat.not_lt_zero i), fun k hk => (zl k hk).2, fun b hb => absurd hb (Nat.not_lt_zero b), fun b k hb hk => (zw b k hb hk).2.1⟩⟩, ⟨⟨Nat.zero_le _, fun v hv => absurd hv (Nat.not_lt_zero v)⟩, z 0 6 (by decide) (by decide) (by omega) (by omega), p4 48 (by omega), fun v hv => absurd hv (Nat.not_lt_zero v)⟩, ⟨(z 0 7 (by decide) (by decide) (by omega) (by omega)).trans (p4 52 (by omega)).symm, z 0 8 (by decide) (by decide) (by omega) (by omega), p4 53 (by omega)⟩, ⟨fun b hb => absurd hb (Nat.not_lt_zero b), fun b k hb hk => (zw b k hb hk).2.2, fun b hb => zs b hb, fun _ _ => ⟨fun _ => rfl, rfl, rfl⟩, fun _ _ => ⟨fun _ => rfl, rfl, rfl⟩⟩, fun q => (by cases q), ⟨?_, fun w hw => ⟨?_, ?_, ?_⟩⟩, fun w hw => ⟨⟨by show 0 ≤ 20; omega, fun u hu => by cases hu⟩, ?_, Nat.zero_lt_succ _, z243 w hw, fun f' e => ⟨?_, fun r u hu => by cases hu⟩⟩⟩
    · rw [t1]; unfold isTx; decide
    · rw [tw w hw]; exact itx w hw
    · rw [tw w hw, t1]; split <;> omega
    · intro w' hw' q
      rw [tw w hw, tw w' hw'] at q
      split at q <;> split at q <;> omega
    · rw [tw w hw]; exact xt _ (itx w hw)
    · exact e.1.trans (z244 _ (show 2 * w + 0 < 14 by omega))
  · have key : ∀ k, k < 16 → aKy.getD k 0 = i64 (kyw k) := by decide +kernel
    rw [hk k hk']
    exact key k hk'

def J_L_law_765 (xs : Nat → Int32) (L : Nat) (N : Nat) (k18 : Int32 → aSt → Option (Int32 × aSt)) (x3 : Int32) (σ : aSt) : Option (Int32 × aSt) := k18 (x3 + 6) σ
set_option maxRecDepth 20000 in
set_option maxHeartbeats 4000000 in
theorem TJ_L_law_765 (xs : Nat → Int32) (L : Nat) (N : Nat) (k18 : Int32 → aSt → Option (Int32 × aSt)) (hk18 : ∀ (x3 : Int32) (σ : aSt) (q : Int32 × aSt), k18 x3 σ = some q → Gr σ → Ev xs L 188 18 [.float 0, .ref 0, .ref 235, .int x3] [] σ (wI q.1) q.2 ∧ Gr q.2) (x3 : Int32) (σ : aSt) (q : Int32 × aSt) (h : J_L_law_765 xs L N k18 x3 σ = some q) (hG : Gr σ) : Ev xs L 188 765 [.float 0, .ref 0, .ref 235, .int x3] [] σ (wI q.1) q.2 ∧ Gr q.2 := by
  have h : (k18 (x3 + 6) σ) = some q := h
  refine ev_a (fun he => ev_iinc (ls' := [.float 0, .ref 0, .ref 235, .int (x3 + 6)]) rfl rfl rfl (Nat.le_of_ble_eq_true rfl) rfl he) ?_
  refine ev_a (fun he => ev_goto rfl he) ?_
  exact hk18 (x3 + 6) σ q h hG
def H_L_law_18 (xs : Nat → Int32) (L : Nat) (N : Nat) : Nat → Int32 → aSt → Option (Int32 × aSt)
  | 0, _, _ => none
  | n + 1, x3, σ => if ((Int32.ofNat L) - 6) < x3 then cO (vp_nar .boolean 1 = 1) (some (1, σ)) else cO (¬ (x3 < 0 ∨ L ≤ x3.toNatClampNeg)) (if ((xs x3.toNatClampNeg) &&& 31) = 0 then (cO (¬ ((x3 + 1) < 0 ∨ L ≤ (x3 + 1).toNatClampNeg)) (cO (¬ ((x3 + 2) < 0 ∨ L ≤ (x3 + 2).toNatClampNeg)) (cO (¬ ((x3 + 3) < 0 ∨ L ≤ (x3 + 3).toNatClampNeg)) (cO (¬ ((x3 + 4) < 0 ∨ L ≤ (x3 + 4).toNatClampNeg)) (cO (¬ ((x3 + 5) < 0 ∨ L ≤ (x3 + 5).toNatClampNeg)) (oB (F_X11_feed N (xs (x3 + 1).toNatClampNeg) (xs (x3 + 2).toNatClampNeg) (xs (x3 + 3).toNatClampNeg) (xs (x3 + 4).toNatClampNeg) (xs (x3 + 5).toNatClampNeg) σ) fun y10 σ11 => cO (¬ ((x3 + 1) < 0 ∨ L ≤ (x3 + 1).toNatClampNeg)) (cO (¬ ((x3 + 2) < 0 ∨ L ≤ (x3 + 2).toNatClampNeg)) (cO (¬ ((x3 + 3) < 0 ∨ L ≤ (x3 + 3).toNatClampNeg)) (cO (¬ ((x3 + 4) < 0 ∨ L ≤ (x3 + 4).toNatClampNeg)) (cO (¬ ((x3 + 5) < 0 ∨ L ≤ (x3 + 5).toNatClampNeg)) (oB (F_X12_feed N (xs (x3 + 1).toNatClampNeg) (xs (x3 + 2).toNatClampNeg) (xs (x3 + 3).toNatClampNeg) (xs (x3 + 4).toNatClampNeg) (xs (x3 + 5).toNatClampNeg) σ11) fun y20 σ21 => if y10 = y20 then J_L_law_765 xs L N (H_L_law_18 xs L N n) x3 σ21 else cO (vp_nar .boolean 0 = 0) (some (0, σ21))))))))))))) else if ((xs x3.toNatClampNeg) &&& 31) = 1 then (cO (¬ ((x3 + 1) < 0 ∨ L ≤ (x3 + 1).toNatClampNeg)) (oB (F_X11_back N (xs (x3 + 1).toNatClampNeg) σ) fun y29 σ30 => cO (¬ ((x3 + 1) < 0 ∨ L ≤ (x3 + 1).toNatClampNeg)) (oB (F_X12_back N (xs (x3 + 1).toNatClampNeg) σ30) fun y35 σ36 => if y29 = y35 then J_L_law_765 xs L N (H_L_law_18 xs L N n) x3 σ36 else cO (vp_nar .boolean 0 = 0) (some (0, σ36))))) else if ((xs x3.toNatClampNeg) &&& 31) = 2 then (cO (¬ ((x3 + 1) < 0 ∨ L ≤ (x3 + 1).toNatClampNeg)) (oB (F_X11_read N (xs (x3 + 1).toNatClampNeg) σ) fun y44 σ45 => cO (¬ ((x3 + 1) < 0 ∨ L ≤ (x3 + 1).toNatClampNeg)) (oB (F_X12_read N (xs (x3 + 1).toNatClampNeg) σ45) fun y50 σ51 => if y44 = y50 then J_L_law_765 xs L N (H_L_law_18 xs L N n) x3 σ51 else cO (vp_nar .boolean 0 = 0) (some (0, σ51))))) else if ((xs x3.toNatClampNeg) &&& 31) = 3 then (oB (F_X11_place N σ) fun y58 σ59 => oB (F_X12_place N σ59) fun y63 σ64 => if y58 = y63 then J_L_law_765 xs L N (H_L_law_18 xs L N n) x3 σ64 else cO (vp_nar .boolean 0 = 0) (some (0, σ64))) else if ((xs x3.toNatClampNeg) &&& 31) = 4 then (cO (¬ ((x3 + 1) < 0 ∨ L ≤ (x3 + 1).toNatClampNeg)) (cO (¬ ((x3 + 2) < 0 ∨ L ≤ (x3 + 2).toNatClampNeg)) (cO (¬ ((x3 + 3) < 0 ∨ L ≤ (x3 + 3).toNatClampNeg)) (cO (¬ ((x3 + 4) < 0 ∨ L ≤ (x3 + 4).toNatClampNeg)) (cO (¬ ((x3 + 5) < 0 ∨ L ≤ (x3 + 5).toNatClampNeg)) (oB (F_X11_lot N (xs (x3 + 1).toNatClampNeg) (xs (x3 + 2).toNatClampNeg) (xs (x3 + 3).toNatClampNeg) (xs (x3 + 4).toNatClampNeg) (xs (x3 + 5).toNatClampNeg) σ) fun y76 σ77 => cO (¬ ((x3 + 1) < 0 ∨ L ≤ (x3 + 1).toNatClampNeg)) (cO (¬ ((x3 + 2) < 0 ∨ L ≤ (x3 + 2).toNatClampNeg)) (cO (¬ ((x3 + 3) < 0 ∨ L ≤ (x3 + 3).toNatClampNeg)) (cO (¬ ((x3 + 4) < 0 ∨ L ≤ (x3 + 4).toNatClampNeg)) (cO (¬ ((x3 + 5) < 0 ∨ L ≤ (x3 + 5).toNatClampNeg)) (oB (F_X12_lot N (xs (x3 + 1).toNatClampNeg) (xs (x3 + 2).toNatClampNeg) (xs (x3 + 3).toNatClampNeg) (xs (x3 + 4).toNatClampNeg) (xs (x3 + 5).toNatClampNeg) σ77) fun y86 σ87 => if y76 = y86 then J_L_law_765 xs L N (H_L_law_18 xs L N n) x3 σ87 else cO (vp_nar .boolean 0 = 0) (some (0, σ87))))))))))))) else if ((xs x3.toNatClampNeg) &&& 31) = 5 then (cO (¬ ((x3 + 1) < 0 ∨ L ≤ (x3 + 1).toNatClampNeg)) (cO (¬ ((x3 + 2) < 0 ∨ L ≤ (x3 + 2).toNatClampNeg)) (oB (F_X11_buyer N (xs (x3 + 1).toNatClampNeg) (xs (x3 + 2).toNatClampNeg) σ) fun y96 σ97 => cO (¬ ((x3 + 1) < 0 ∨ L ≤ (x3 + 1).toNatClampNeg)) (cO (¬ ((x3 + 2) < 0 ∨ L ≤ (x3 + 2).toNatClampNeg)) (oB (F_X12_buyer N (xs (x3 + 1).toNatClampNeg) (xs (x3 + 2).toNatClampNeg) σ97) fun y103 σ104 => if y96 = y103 then J_L_law_765 xs L N (H_L_law_18 xs L N n) x3 σ104 else cO (vp_nar .boolean 0 = 0) (some (0, σ104))))))) else if ((xs x3.toNatClampNeg) &&& 31) = 6 then (cO (¬ ((x3 + 1) < 0 ∨ L ≤ (x3 + 1).toNatClampNeg)) (cO (¬ ((x3 + 2) < 0 ∨ L ≤ (x3 + 2).toNatClampNeg)) (cO (¬ ((x3 + 3) < 0 ∨ L ≤ (x3 + 3).toNatClampNeg)) (oB (F_X11_want N (xs (x3 + 1).toNatClampNeg) (xs (x3 + 2).toNatClampNeg) (xs (x3 + 3).toNatClampNeg) σ) fun y114 σ115 => cO (¬ ((x3 + 1) < 0 ∨ L ≤ (x3 + 1).toNatClampNeg)) (cO (¬ ((x3 + 2) < 0 ∨ L ≤ (x3 + 2).toNatClampNeg)) (cO (¬ ((x3 + 3) < 0 ∨ L ≤ (x3 + 3).toNatClampNeg)) (oB (F_X12_want N (xs (x3 + 1).toNatClampNeg) (xs (x3 + 2).toNatClampNeg) (xs (x3 + 3).toNatClampNeg) σ115) fun y122 σ123 => if y114 = y122 then J_L_law_765 xs L N (H_L_law_18 xs L N n) x3 σ123 else cO (vp_nar .boolean 0 = 0) (some (0, σ123))))))))) else if ((xs x3.toNatClampNeg) &&& 31) = 7 then (cO (¬ ((x3 + 1) < 0 ∨ L ≤ (x3 + 1).toNatClampNeg)) (cO (¬ ((x3 + 2) < 0 ∨ L ≤ (x3 + 2).toNatClampNeg)) (cO (¬ ((x3 + 3) < 0 ∨ L ≤ (x3 + 3).toNatClampNeg)) (oB (F_X11_lorry N (xs (x3 + 1).toNatClampNeg) (xs (x3 + 2).toNatClampNeg) (xs (x3 + 3).toNatClampNeg) σ) fun y133 σ134 => cO (¬ ((x3 + 1) < 0 ∨ L ≤ (x3 + 1).toNatClampNeg)) (cO (¬ ((x3 + 2) < 0 ∨ L ≤ (x3 + 2).toNatClampNeg)) (cO (¬ ((x3 + 3) < 0 ∨ L ≤ (x3 + 3).toNatClampNeg)) (oB (F_X12_lorry N (xs (x3 + 1).toNatClampNeg) (xs (x3 + 2).toNatClampNeg) (xs (x3 + 3).toNatClampNeg) σ134) fun y141 σ142 => if y133 = y141 then J_L_law_765 xs L N (H_L_law_18 xs L N n) x3 σ142 else cO (vp_nar .boolean 0 = 0) (some (0, σ142))))))))) else if ((xs x3.toNatClampNeg) &&& 31) = 8 then (oB (F_X11_sale N σ) fun y149 σ150 => oB (F_X12_sale N σ150) fun y154 σ155 => if y149 = y154 then J_L_law_765 xs L N (H_L_law_18 xs L N n) x3 σ155 else cO (vp_nar .boolean 0 = 0) (some (0, σ155))) else if ((xs x3.toNatClampNeg) &&& 31) = 9 then (oB (F_X11_day N σ) fun y162 σ163 => oB (F_X12_day N σ163) fun y167 σ168 => if y162 = y167 then J_L_law_765 xs L N (H_L_law_18 xs L N n) x3 σ168 else cO (vp_nar .boolean 0 = 0) (some (0, σ168))) else if ((xs x3.toNatClampNeg) &&& 31) = 10 then (cO (¬ ((x3 + 1) < 0 ∨ L ≤ (x3 + 1).toNatClampNeg)) (cO (¬ ((x3 + 2) < 0 ∨ L ≤ (x3 + 2).toNatClampNeg)) (oB (F_X11_told N (xs (x3 + 1).toNatClampNeg) (xs (x3 + 2).toNatClampNeg) σ) fun y177 σ178 => cO (¬ ((x3 + 1) < 0 ∨ L ≤ (x3 + 1).toNatClampNeg)) (cO (¬ ((x3 + 2) < 0 ∨ L ≤ (x3 + 2).toNatClampNeg)) (oB (F_X12_told N (xs (x3 + 1).toNatClampNeg) (xs (x3 + 2).toNatClampNeg) σ178) fun y184 σ185 => if y177 = y184 then J_L_law_765 xs L N (H_L_law_18 xs L N n) x3 σ185 else cO (vp_nar .boolean 0 = 0) (some (0, σ185))))))) else if ((xs x3.toNatClampNeg) &&& 31) = 11 then (cO (¬ ((x3 + 1) < 0 ∨ L ≤ (x3 + 1).toNatClampNeg)) (cO (¬ ((x3 + 2) < 0 ∨ L ≤ (x3 + 2).toNatClampNeg)) (oB (F_X11_limit N (xs (x3 + 1).toNatClampNeg) (xs (x3 + 2).toNatClampNeg) σ) fun y194 σ195 => cO (¬ ((x3 + 1) < 0 ∨ L ≤ (x3 + 1).toNatClampNeg)) (cO (¬ ((x3 + 2) < 0 ∨ L ≤ (x3 + 2).toNatClampNeg)) (oB (F_X12_limit N (xs (x3 + 1).toNatClampNeg) (xs (x3 + 2).toNatClampNeg) σ195) fun y201 σ202 => if y194 = y201 then J_L_law_765 xs L N (H_L_law_18 xs L N n) x3 σ202 else cO (vp_nar .boolean 0 = 0) (some (0, σ202))))))) else if ((xs x3.toNatClampNeg) &&& 31) = 12 then (cO (¬ ((x3 + 1) < 0 ∨ L ≤ (x3 + 1).toNatClampNeg)) (cO (¬ ((x3 + 2) < 0 ∨ L ≤ (x3 + 2).toNatClampNeg)) (oB (F_X11_rule N (xs (x3 + 1).toNatClampNeg) (xs (x3 + 2).toNatClampNeg) σ) fun y211 σ212 => cO (¬ ((x3 + 1) < 0 ∨ L ≤ (x3 + 1).toNatClampNeg)) (cO (¬ ((x3 + 2) < 0 ∨ L ≤ (x3 + 2).toNatClampNeg)) (oB (F_X12_rule N (xs (x3 + 1).toNatClampNeg) (xs (x3 + 2).toNatClampNeg) σ212) fun y218 σ219 => if y211 = y218 then J_L_law_765 xs L N (H_L_law_18 xs L N n) x3 σ219 else cO (vp_nar .boolean 0 = 0) (some (0, σ219))))))) else if ((xs x3.toNatClampNeg) &&& 31) = 13 then (cO (¬ ((x3 + 1) < 0 ∨ L ≤ (x3 + 1).toNatClampNeg)) (cO (¬ ((x3 + 2) < 0 ∨ L ≤ (x3 + 2).toNatClampNeg)) (oB (F_X11_bought N (xs (x3 + 1).toNatClampNeg) (xs (x3 + 2).toNatClampNeg) σ) fun y228 σ229 => cO (¬ ((x3 + 1) < 0 ∨ L ≤ (x3 + 1).toNatClampNeg)) (cO (¬ ((x3 + 2) < 0 ∨ L ≤ (x3 + 2).toNatClampNeg)) (oB (F_X12_bought N (xs (x3 + 1).toNatClampNeg) (xs (x3 + 2).toNatClampNeg) σ229) fun y235 σ236 => if y228 = y235 then J_L_law_765 xs L N (H_L_law_18 xs L N n) x3 σ236 else cO (vp_nar .boolean 0 = 0) (some (0, σ236))))))) else if ((xs x3.toNatClampNeg) &&& 31) = 14 then (cO (¬ ((x3 + 1) < 0 ∨ L ≤ (x3 + 1).toNatClampNeg)) (oB (F_X11_last N (xs (x3 + 1).toNatClampNeg) σ) fun y244 σ245 => cO (¬ ((x3 + 1) < 0 ∨ L ≤ (x3 + 1).toNatClampNeg)) (oB (F_X12_last N (xs (x3 + 1).toNatClampNeg) σ245) fun y250 σ251 => if y244 = y250 then J_L_law_765 xs L N (H_L_law_18 xs L N n) x3 σ251 else cO (vp_nar .boolean 0 = 0) (some (0, σ251))))) else if ((xs x3.toNatClampNeg) &&& 31) = 15 then (cO (¬ ((x3 + 1) < 0 ∨ L ≤ (x3 + 1).toNatClampNeg)) (oB (F_X11_gets N (xs (x3 + 1).toNatClampNeg) σ) fun y259 σ260 => cO (¬ ((x3 + 1) < 0 ∨ L ≤ (x3 + 1).toNatClampNeg)) (oB (F_X12_gets N (xs (x3 + 1).toNatClampNeg) σ260) fun y265 σ266 => if y259 = y265 then J_L_law_765 xs L N (H_L_law_18 xs L N n) x3 σ266 else cO (vp_nar .boolean 0 = 0) (some (0, σ266))))) else if ((xs x3.toNatClampNeg) &&& 31) = 16 then (cO (¬ ((x3 + 1) < 0 ∨ L ≤ (x3 + 1).toNatClampNeg)) (oB (F_X11_sum N (xs (x3 + 1).toNatClampNeg) σ) fun y274 σ275 => cO (¬ ((x3 + 1) < 0 ∨ L ≤ (x3 + 1).toNatClampNeg)) (oB (F_X12_sum N (xs (x3 + 1).toNatClampNeg) σ275) fun y280 σ281 => if y274 = y280 then J_L_law_765 xs L N (H_L_law_18 xs L N n) x3 σ281 else cO (vp_nar .boolean 0 = 0) (some (0, σ281))))) else if ((xs x3.toNatClampNeg) &&& 31) = 17 then (cO (¬ ((x3 + 1) < 0 ∨ L ≤ (x3 + 1).toNatClampNeg)) (oB (F_X11_without N (xs (x3 + 1).toNatClampNeg) σ) fun y289 σ290 => cO (¬ ((x3 + 1) < 0 ∨ L ≤ (x3 + 1).toNatClampNeg)) (oB (F_X12_without N (xs (x3 + 1).toNatClampNeg) σ290) fun y295 σ296 => if y289 = y295 then J_L_law_765 xs L N (H_L_law_18 xs L N n) x3 σ296 else cO (vp_nar .boolean 0 = 0) (some (0, σ296))))) else if ((xs x3.toNatClampNeg) &&& 31) = 18 then (cO (¬ ((x3 + 1) < 0 ∨ L ≤ (x3 + 1).toNatClampNeg)) (cO (¬ ((x3 + 2) < 0 ∨ L ≤ (x3 + 2).toNatClampNeg)) (oB (F_X11_load N (xs (x3 + 1).toNatClampNeg) (xs (x3 + 2).toNatClampNeg) σ) fun y305 σ306 => cO (¬ ((x3 + 1) < 0 ∨ L ≤ (x3 + 1).toNatClampNeg)) (cO (¬ ((x3 + 2) < 0 ∨ L ≤ (x3 + 2).toNatClampNeg)) (oB (F_X12_load N (xs (x3 + 1).toNatClampNeg) (xs (x3 + 2).toNatClampNeg) σ306) fun y312 σ313 => if y305 = y312 then J_L_law_765 xs L N (H_L_law_18 xs L N n) x3 σ313 else cO (vp_nar .boolean 0 = 0) (some (0, σ313))))))) else if ((xs x3.toNatClampNeg) &&& 31) = 19 then (cO (¬ ((x3 + 1) < 0 ∨ L ≤ (x3 + 1).toNatClampNeg)) (oB (F_X11_stays N (xs (x3 + 1).toNatClampNeg) σ) fun y321 σ322 => cO (¬ ((x3 + 1) < 0 ∨ L ≤ (x3 + 1).toNatClampNeg)) (oB (F_X12_stays N (xs (x3 + 1).toNatClampNeg) σ322) fun y327 σ328 => if y321 = y327 then J_L_law_765 xs L N (H_L_law_18 xs L N n) x3 σ328 else cO (vp_nar .boolean 0 = 0) (some (0, σ328))))) else if ((xs x3.toNatClampNeg) &&& 31) = 20 then (cO (¬ ((x3 + 1) < 0 ∨ L ≤ (x3 + 1).toNatClampNeg)) (oB (F_X11_count N (xs (x3 + 1).toNatClampNeg) σ) fun y336 σ337 => cO (¬ ((x3 + 1) < 0 ∨ L ≤ (x3 + 1).toNatClampNeg)) (oB (F_X12_count N (xs (x3 + 1).toNatClampNeg) σ337) fun y342 σ343 => if y336 = y342 then J_L_law_765 xs L N (H_L_law_18 xs L N n) x3 σ343 else cO (vp_nar .boolean 0 = 0) (some (0, σ343))))) else J_L_law_765 xs L N (H_L_law_18 xs L N n) x3 σ)
set_option maxRecDepth 20000 in
set_option maxHeartbeats 4000000 in
theorem TH_L_law_18 (xs : Nat → Int32) (L : Nat) (N : Nat) : ∀ (n : Nat) (x3 : Int32) (σ : aSt) (q : Int32 × aSt), H_L_law_18 xs L N n x3 σ = some q → Gr σ → Ev xs L 188 18 [.float 0, .ref 0, .ref 235, .int x3] [] σ (wI q.1) q.2 ∧ Gr q.2 := by
  intro n
  induction n with
  | zero =>
    intro x3 σ q h hG
    exact absurd (show (none : Option (Int32 × aSt)) = some q from h) (by simp)
  | succ n ih =>
    intro x3 σ q h hG
    have hk18 : ∀ (x3 : Int32) (σ : aSt) (q : Int32 × aSt), H_L_law_18 xs L N n x3 σ = some q → Gr σ → Ev xs L 188 18 [.float 0, .ref 0, .ref 235, .int x3] [] σ (wI q.1) q.2 ∧ Gr q.2 := ih
    have h : (if ((Int32.ofNat L) - 6) < x3 then cO (vp_nar .boolean 1 = 1) (some (1, σ)) else cO (¬ (x3 < 0 ∨ L ≤ x3.toNatClampNeg)) (if ((xs x3.toNatClampNeg) &&& 31) = 0 then (cO (¬ ((x3 + 1) < 0 ∨ L ≤ (x3 + 1).toNatClampNeg)) (cO (¬ ((x3 + 2) < 0 ∨ L ≤ (x3 + 2).toNatClampNeg)) (cO (¬ ((x3 + 3) < 0 ∨ L ≤ (x3 + 3).toNatClampNeg)) (cO (¬ ((x3 + 4) < 0 ∨ L ≤ (x3 + 4).toNatClampNeg)) (cO (¬ ((x3 + 5) < 0 ∨ L ≤ (x3 + 5).toNatClampNeg)) (oB (F_X11_feed N (xs (x3 + 1).toNatClampNeg) (xs (x3 + 2).toNatClampNeg) (xs (x3 + 3).toNatClampNeg) (xs (x3 + 4).toNatClampNeg) (xs (x3 + 5).toNatClampNeg) σ) fun y10 σ11 => cO (¬ ((x3 + 1) < 0 ∨ L ≤ (x3 + 1).toNatClampNeg)) (cO (¬ ((x3 + 2) < 0 ∨ L ≤ (x3 + 2).toNatClampNeg)) (cO (¬ ((x3 + 3) < 0 ∨ L ≤ (x3 + 3).toNatClampNeg)) (cO (¬ ((x3 + 4) < 0 ∨ L ≤ (x3 + 4).toNatClampNeg)) (cO (¬ ((x3 + 5) < 0 ∨ L ≤ (x3 + 5).toNatClampNeg)) (oB (F_X12_feed N (xs (x3 + 1).toNatClampNeg) (xs (x3 + 2).toNatClampNeg) (xs (x3 + 3).toNatClampNeg) (xs (x3 + 4).toNatClampNeg) (xs (x3 + 5).toNatClampNeg) σ11) fun y20 σ21 => if y10 = y20 then J_L_law_765 xs L N (H_L_law_18 xs L N n) x3 σ21 else cO (vp_nar .boolean 0 = 0) (some (0, σ21))))))))))))) else if ((xs x3.toNatClampNeg) &&& 31) = 1 then (cO (¬ ((x3 + 1) < 0 ∨ L ≤ (x3 + 1).toNatClampNeg)) (oB (F_X11_back N (xs (x3 + 1).toNatClampNeg) σ) fun y29 σ30 => cO (¬ ((x3 + 1) < 0 ∨ L ≤ (x3 + 1).toNatClampNeg)) (oB (F_X12_back N (xs (x3 + 1).toNatClampNeg) σ30) fun y35 σ36 => if y29 = y35 then J_L_law_765 xs L N (H_L_law_18 xs L N n) x3 σ36 else cO (vp_nar .boolean 0 = 0) (some (0, σ36))))) else if ((xs x3.toNatClampNeg) &&& 31) = 2 then (cO (¬ ((x3 + 1) < 0 ∨ L ≤ (x3 + 1).toNatClampNeg)) (oB (F_X11_read N (xs (x3 + 1).toNatClampNeg) σ) fun y44 σ45 => cO (¬ ((x3 + 1) < 0 ∨ L ≤ (x3 + 1).toNatClampNeg)) (oB (F_X12_read N (xs (x3 + 1).toNatClampNeg) σ45) fun y50 σ51 => if y44 = y50 then J_L_law_765 xs L N (H_L_law_18 xs L N n) x3 σ51 else cO (vp_nar .boolean 0 = 0) (some (0, σ51))))) else if ((xs x3.toNatClampNeg) &&& 31) = 3 then (oB (F_X11_place N σ) fun y58 σ59 => oB (F_X12_place N σ59) fun y63 σ64 => if y58 = y63 then J_L_law_765 xs L N (H_L_law_18 xs L N n) x3 σ64 else cO (vp_nar .boolean 0 = 0) (some (0, σ64))) else if ((xs x3.toNatClampNeg) &&& 31) = 4 then (cO (¬ ((x3 + 1) < 0 ∨ L ≤ (x3 + 1).toNatClampNeg)) (cO (¬ ((x3 + 2) < 0 ∨ L ≤ (x3 + 2).toNatClampNeg)) (cO (¬ ((x3 + 3) < 0 ∨ L ≤ (x3 + 3).toNatClampNeg)) (cO (¬ ((x3 + 4) < 0 ∨ L ≤ (x3 + 4).toNatClampNeg)) (cO (¬ ((x3 + 5) < 0 ∨ L ≤ (x3 + 5).toNatClampNeg)) (oB (F_X11_lot N (xs (x3 + 1).toNatClampNeg) (xs (x3 + 2).toNatClampNeg) (xs (x3 + 3).toNatClampNeg) (xs (x3 + 4).toNatClampNeg) (xs (x3 + 5).toNatClampNeg) σ) fun y76 σ77 => cO (¬ ((x3 + 1) < 0 ∨ L ≤ (x3 + 1).toNatClampNeg)) (cO (¬ ((x3 + 2) < 0 ∨ L ≤ (x3 + 2).toNatClampNeg)) (cO (¬ ((x3 + 3) < 0 ∨ L ≤ (x3 + 3).toNatClampNeg)) (cO (¬ ((x3 + 4) < 0 ∨ L ≤ (x3 + 4).toNatClampNeg)) (cO (¬ ((x3 + 5) < 0 ∨ L ≤ (x3 + 5).toNatClampNeg)) (oB (F_X12_lot N (xs (x3 + 1).toNatClampNeg) (xs (x3 + 2).toNatClampNeg) (xs (x3 + 3).toNatClampNeg) (xs (x3 + 4).toNatClampNeg) (xs (x3 + 5).toNatClampNeg) σ77) fun y86 σ87 => if y76 = y86 then J_L_law_765 xs L N (H_L_law_18 xs L N n) x3 σ87 else cO (vp_nar .boolean 0 = 0) (some (0, σ87))))))))))))) else if ((xs x3.toNatClampNeg) &&& 31) = 5 then (cO (¬ ((x3 + 1) < 0 ∨ L ≤ (x3 + 1).toNatClampNeg)) (cO (¬ ((x3 + 2) < 0 ∨ L ≤ (x3 + 2).toNatClampNeg)) (oB (F_X11_buyer N (xs (x3 + 1).toNatClampNeg) (xs (x3 + 2).toNatClampNeg) σ) fun y96 σ97 => cO (¬ ((x3 + 1) < 0 ∨ L ≤ (x3 + 1).toNatClampNeg)) (cO (¬ ((x3 + 2) < 0 ∨ L ≤ (x3 + 2).toNatClampNeg)) (oB (F_X12_buyer N (xs (x3 + 1).toNatClampNeg) (xs (x3 + 2).toNatClampNeg) σ97) fun y103 σ104 => if y96 = y103 then J_L_law_765 xs L N (H_L_law_18 xs L N n) x3 σ104 else cO (vp_nar .boolean 0 = 0) (some (0, σ104))))))) else if ((xs x3.toNatClampNeg) &&& 31) = 6 then (cO (¬ ((x3 + 1) < 0 ∨ L ≤ (x3 + 1).toNatClampNeg)) (cO (¬ ((x3 + 2) < 0 ∨ L ≤ (x3 + 2).toNatClampNeg)) (cO (¬ ((x3 + 3) < 0 ∨ L ≤ (x3 + 3).toNatClampNeg)) (oB (F_X11_want N (xs (x3 + 1).toNatClampNeg) (xs (x3 + 2).toNatClampNeg) (xs (x3 + 3).toNatClampNeg) σ) fun y114 σ115 => cO (¬ ((x3 + 1) < 0 ∨ L ≤ (x3 + 1).toNatClampNeg)) (cO (¬ ((x3 + 2) < 0 ∨ L ≤ (x3 + 2).toNatClampNeg)) (cO (¬ ((x3 + 3) < 0 ∨ L ≤ (x3 + 3).toNatClampNeg)) (oB (F_X12_want N (xs (x3 + 1).toNatClampNeg) (xs (x3 + 2).toNatClampNeg) (xs (x3 + 3).toNatClampNeg) σ115) fun y122 σ123 => if y114 = y122 then J_L_law_765 xs L N (H_L_law_18 xs L N n) x3 σ123 else cO (vp_nar .boolean 0 = 0) (some (0, σ123))))))))) else if ((xs x3.toNatClampNeg) &&& 31) = 7 then (cO (¬ ((x3 + 1) < 0 ∨ L ≤ (x3 + 1).toNatClampNeg)) (cO (¬ ((x3 + 2) < 0 ∨ L ≤ (x3 + 2).toNatClampNeg)) (cO (¬ ((x3 + 3) < 0 ∨ L ≤ (x3 + 3).toNatClampNeg)) (oB (F_X11_lorry N (xs (x3 + 1).toNatClampNeg) (xs (x3 + 2).toNatClampNeg) (xs (x3 + 3).toNatClampNeg) σ) fun y133 σ134 => cO (¬ ((x3 + 1) < 0 ∨ L ≤ (x3 + 1).toNatClampNeg)) (cO (¬ ((x3 + 2) < 0 ∨ L ≤ (x3 + 2).toNatClampNeg)) (cO (¬ ((x3 + 3) < 0 ∨ L ≤ (x3 + 3).toNatClampNeg)) (oB (F_X12_lorry N (xs (x3 + 1).toNatClampNeg) (xs (x3 + 2).toNatClampNeg) (xs (x3 + 3).toNatClampNeg) σ134) fun y141 σ142 => if y133 = y141 then J_L_law_765 xs L N (H_L_law_18 xs L N n) x3 σ142 else cO (vp_nar .boolean 0 = 0) (some (0, σ142))))))))) else if ((xs x3.toNatClampNeg) &&& 31) = 8 then (oB (F_X11_sale N σ) fun y149 σ150 => oB (F_X12_sale N σ150) fun y154 σ155 => if y149 = y154 then J_L_law_765 xs L N (H_L_law_18 xs L N n) x3 σ155 else cO (vp_nar .boolean 0 = 0) (some (0, σ155))) else if ((xs x3.toNatClampNeg) &&& 31) = 9 then (oB (F_X11_day N σ) fun y162 σ163 => oB (F_X12_day N σ163) fun y167 σ168 => if y162 = y167 then J_L_law_765 xs L N (H_L_law_18 xs L N n) x3 σ168 else cO (vp_nar .boolean 0 = 0) (some (0, σ168))) else if ((xs x3.toNatClampNeg) &&& 31) = 10 then (cO (¬ ((x3 + 1) < 0 ∨ L ≤ (x3 + 1).toNatClampNeg)) (cO (¬ ((x3 + 2) < 0 ∨ L ≤ (x3 + 2).toNatClampNeg)) (oB (F_X11_told N (xs (x3 + 1).toNatClampNeg) (xs (x3 + 2).toNatClampNeg) σ) fun y177 σ178 => cO (¬ ((x3 + 1) < 0 ∨ L ≤ (x3 + 1).toNatClampNeg)) (cO (¬ ((x3 + 2) < 0 ∨ L ≤ (x3 + 2).toNatClampNeg)) (oB (F_X12_told N (xs (x3 + 1).toNatClampNeg) (xs (x3 + 2).toNatClampNeg) σ178) fun y184 σ185 => if y177 = y184 then J_L_law_765 xs L N (H_L_law_18 xs L N n) x3 σ185 else cO (vp_nar .boolean 0 = 0) (some (0, σ185))))))) else if ((xs x3.toNatClampNeg) &&& 31) = 11 then (cO (¬ ((x3 + 1) < 0 ∨ L ≤ (x3 + 1).toNatClampNeg)) (cO (¬ ((x3 + 2) < 0 ∨ L ≤ (x3 + 2).toNatClampNeg)) (oB (F_X11_limit N (xs (x3 + 1).toNatClampNeg) (xs (x3 + 2).toNatClampNeg) σ) fun y194 σ195 => cO (¬ ((x3 + 1) < 0 ∨ L ≤ (x3 + 1).toNatClampNeg)) (cO (¬ ((x3 + 2) < 0 ∨ L ≤ (x3 + 2).toNatClampNeg)) (oB (F_X12_limit N (xs (x3 + 1).toNatClampNeg) (xs (x3 + 2).toNatClampNeg) σ195) fun y201 σ202 => if y194 = y201 then J_L_law_765 xs L N (H_L_law_18 xs L N n) x3 σ202 else cO (vp_nar .boolean 0 = 0) (some (0, σ202))))))) else if ((xs x3.toNatClampNeg) &&& 31) = 12 then (cO (¬ ((x3 + 1) < 0 ∨ L ≤ (x3 + 1).toNatClampNeg)) (cO (¬ ((x3 + 2) < 0 ∨ L ≤ (x3 + 2).toNatClampNeg)) (oB (F_X11_rule N (xs (x3 + 1).toNatClampNeg) (xs (x3 + 2).toNatClampNeg) σ) fun y211 σ212 => cO (¬ ((x3 + 1) < 0 ∨ L ≤ (x3 + 1).toNatClampNeg)) (cO (¬ ((x3 + 2) < 0 ∨ L ≤ (x3 + 2).toNatClampNeg)) (oB (F_X12_rule N (xs (x3 + 1).toNatClampNeg) (xs (x3 + 2).toNatClampNeg) σ212) fun y218 σ219 => if y211 = y218 then J_L_law_765 xs L N (H_L_law_18 xs L N n) x3 σ219 else cO (vp_nar .boolean 0 = 0) (some (0, σ219))))))) else if ((xs x3.toNatClampNeg) &&& 31) = 13 then (cO (¬ ((x3 + 1) < 0 ∨ L ≤ (x3 + 1).toNatClampNeg)) (cO (¬ ((x3 + 2) < 0 ∨ L ≤ (x3 + 2).toNatClampNeg)) (oB (F_X11_bought N (xs (x3 + 1).toNatClampNeg) (xs (x3 + 2).toNatClampNeg) σ) fun y228 σ229 => cO (¬ ((x3 + 1) < 0 ∨ L ≤ (x3 + 1).toNatClampNeg)) (cO (¬ ((x3 + 2) < 0 ∨ L ≤ (x3 + 2).toNatClampNeg)) (oB (F_X12_bought N (xs (x3 + 1).toNatClampNeg) (xs (x3 + 2).toNatClampNeg) σ229) fun y235 σ236 => if y228 = y235 then J_L_law_765 xs L N (H_L_law_18 xs L N n) x3 σ236 else cO (vp_nar .boolean 0 = 0) (some (0, σ236))))))) else if ((xs x3.toNatClampNeg) &&& 31) = 14 then (cO (¬ ((x3 + 1) < 0 ∨ L ≤ (x3 + 1).toNatClampNeg)) (oB (F_X11_last N (xs (x3 + 1).toNatClampNeg) σ) fun y244 σ245 => cO (¬ ((x3 + 1) < 0 ∨ L ≤ (x3 + 1).toNatClampNeg)) (oB (F_X12_last N (xs (x3 + 1).toNatClampNeg) σ245) fun y250 σ251 => if y244 = y250 then J_L_law_765 xs L N (H_L_law_18 xs L N n) x3 σ251 else cO (vp_nar .boolean 0 = 0) (some (0, σ251))))) else if ((xs x3.toNatClampNeg) &&& 31) = 15 then (cO (¬ ((x3 + 1) < 0 ∨ L ≤ (x3 + 1).toNatClampNeg)) (oB (F_X11_gets N (xs (x3 + 1).toNatClampNeg) σ) fun y259 σ260 => cO (¬ ((x3 + 1) < 0 ∨ L ≤ (x3 + 1).toNatClampNeg)) (oB (F_X12_gets N (xs (x3 + 1).toNatClampNeg) σ260) fun y265 σ266 => if y259 = y265 then J_L_law_765 xs L N (H_L_law_18 xs L N n) x3 σ266 else cO (vp_nar .boolean 0 = 0) (some (0, σ266))))) else if ((xs x3.toNatClampNeg) &&& 31) = 16 then (cO (¬ ((x3 + 1) < 0 ∨ L ≤ (x3 + 1).toNatClampNeg)) (oB (F_X11_sum N (xs (x3 + 1).toNatClampNeg) σ) fun y274 σ275 => cO (¬ ((x3 + 1) < 0 ∨ L ≤ (x3 + 1).toNatClampNeg)) (oB (F_X12_sum N (xs (x3 + 1).toNatClampNeg) σ275) fun y280 σ281 => if y274 = y280 then J_L_law_765 xs L N (H_L_law_18 xs L N n) x3 σ281 else cO (vp_nar .boolean 0 = 0) (some (0, σ281))))) else if ((xs x3.toNatClampNeg) &&& 31) = 17 then (cO (¬ ((x3 + 1) < 0 ∨ L ≤ (x3 + 1).toNatClampNeg)) (oB (F_X11_without N (xs (x3 + 1).toNatClampNeg) σ) fun y289 σ290 => cO (¬ ((x3 + 1) < 0 ∨ L ≤ (x3 + 1).toNatClampNeg)) (oB (F_X12_without N (xs (x3 + 1).toNatClampNeg) σ290) fun y295 σ296 => if y289 = y295 then J_L_law_765 xs L N (H_L_law_18 xs L N n) x3 σ296 else cO (vp_nar .boolean 0 = 0) (some (0, σ296))))) else if ((xs x3.toNatClampNeg) &&& 31) = 18 then (cO (¬ ((x3 + 1) < 0 ∨ L ≤ (x3 + 1).toNatClampNeg)) (cO (¬ ((x3 + 2) < 0 ∨ L ≤ (x3 + 2).toNatClampNeg)) (oB (F_X11_load N (xs (x3 + 1).toNatClampNeg) (xs (x3 + 2).toNatClampNeg) σ) fun y305 σ306 => cO (¬ ((x3 + 1) < 0 ∨ L ≤ (x3 + 1).toNatClampNeg)) (cO (¬ ((x3 + 2) < 0 ∨ L ≤ (x3 + 2).toNatClampNeg)) (oB (F_X12_load N (xs (x3 + 1).toNatClampNeg) (xs (x3 + 2).toNatClampNeg) σ306) fun y312 σ313 => if y305 = y312 then J_L_law_765 xs L N (H_L_law_18 xs L N n) x3 σ313 else cO (vp_nar .boolean 0 = 0) (some (0, σ313))))))) else if ((xs x3.toNatClampNeg) &&& 31) = 19 then (cO (¬ ((x3 + 1) < 0 ∨ L ≤ (x3 + 1).toNatClampNeg)) (oB (F_X11_stays N (xs (x3 + 1).toNatClampNeg) σ) fun y321 σ322 => cO (¬ ((x3 + 1) < 0 ∨ L ≤ (x3 + 1).toNatClampNeg)) (oB (F_X12_stays N (xs (x3 + 1).toNatClampNeg) σ322) fun y327 σ328 => if y321 = y327 then J_L_law_765 xs L N (H_L_law_18 xs L N n) x3 σ328 else cO (vp_nar .boolean 0 = 0) (some (0, σ328))))) else if ((xs x3.toNatClampNeg) &&& 31) = 20 then (cO (¬ ((x3 + 1) < 0 ∨ L ≤ (x3 + 1).toNatClampNeg)) (oB (F_X11_count N (xs (x3 + 1).toNatClampNeg) σ) fun y336 σ337 => cO (¬ ((x3 + 1) < 0 ∨ L ≤ (x3 + 1).toNatClampNeg)) (oB (F_X12_count N (xs (x3 + 1).toNatClampNeg) σ337) fun y342 σ343 => if y336 = y342 then J_L_law_765 xs L N (H_L_law_18 xs L N n) x3 σ343 else cO (vp_nar .boolean 0 = 0) (some (0, σ343))))) else J_L_law_765 xs L N (H_L_law_18 xs L N n) x3 σ)) = some q := h
    refine ev_a (fun he => ev_iload rfl rfl he) ?_
    refine ev_a (fun he => ev_aloadF rfl rfl he) ?_
    refine ev_a (fun he => ev_slen rfl he) ?_
    refine ev_a (fun he => ev_push rfl he) ?_
    refine ev_a (fun he => ev_bin (z := (Int32.ofNat L) - 6) rfl rfl he) ?_
    refine ev_b (c := ((Int32.ofNat L) - 6) < x3) (fun ht hf => ev_cgt rfl ht hf) (fun hc1 => ?_) (fun hc1 => ?_)
    · rw [if_pos hc1] at h
      refine ev_a (fun he => ev_push rfl he) ?_
      obtain ⟨hc2, h⟩ := cO_inv h
      cases h
      exact ⟨ev_retZ rfl hc2, hG⟩
    · rw [if_neg hc1] at h
      refine ev_a (fun he => ev_aloadF rfl rfl he) ?_
      refine ev_a (fun he => ev_iload rfl rfl he) ?_
      obtain ⟨hc3, h⟩ := cO_inv h
      refine ev_a (fun he => ev_sld rfl hc3 he) ?_
      refine ev_a (fun he => ev_push rfl he) ?_
      refine ev_a (fun he => ev_bin (z := (xs x3.toNatClampNeg) &&& 31) rfl rfl he) ?_
      by_cases hz4 : ((xs x3.toNatClampNeg) &&& 31) = 0
      · rw [if_pos hz4] at h
        refine ev_a (fun he => ev_tab (t := 132) rfl (by rw [hz4]; decide) he) ?_
        refine ev_a (fun he => ev_aload rfl rfl he) ?_
        refine ev_a (fun he => ev_aloadF rfl rfl he) ?_
        refine ev_a (fun he => ev_iload rfl rfl he) ?_
        refine ev_a (fun he => ev_push rfl he) ?_
        refine ev_a (fun he => ev_bin (z := x3 + 1) rfl rfl he) ?_
        obtain ⟨hc5, h⟩ := cO_inv h
        refine ev_a (fun he => ev_sld rfl hc5 he) ?_
        refine ev_a (fun he => ev_aloadF rfl rfl he) ?_
        refine ev_a (fun he => ev_iload rfl rfl he) ?_
        refine ev_a (fun he => ev_push rfl he) ?_
        refine ev_a (fun he => ev_bin (z := x3 + 2) rfl rfl he) ?_
        obtain ⟨hc6, h⟩ := cO_inv h
        refine ev_a (fun he => ev_sld rfl hc6 he) ?_
        refine ev_a (fun he => ev_aloadF rfl rfl he) ?_
        refine ev_a (fun he => ev_iload rfl rfl he) ?_
        refine ev_a (fun he => ev_push rfl he) ?_
        refine ev_a (fun he => ev_bin (z := x3 + 3) rfl rfl he) ?_
        obtain ⟨hc7, h⟩ := cO_inv h
        refine ev_a (fun he => ev_sld rfl hc7 he) ?_
        refine ev_a (fun he => ev_aloadF rfl rfl he) ?_
        refine ev_a (fun he => ev_iload rfl rfl he) ?_
        refine ev_a (fun he => ev_push rfl he) ?_
        refine ev_a (fun he => ev_bin (z := x3 + 4) rfl rfl he) ?_
        obtain ⟨hc8, h⟩ := cO_inv h
        refine ev_a (fun he => ev_sld rfl hc8 he) ?_
        refine ev_a (fun he => ev_aloadF rfl rfl he) ?_
        refine ev_a (fun he => ev_iload rfl rfl he) ?_
        refine ev_a (fun he => ev_push rfl he) ?_
        refine ev_a (fun he => ev_bin (z := x3 + 5) rfl rfl he) ?_
        obtain ⟨hc9, h⟩ := cO_inv h
        refine ev_a (fun he => ev_sld rfl hc9 he) ?_
        obtain ⟨y10, σ11, h12, h⟩ := oB_inv h
        obtain ⟨c13, hG14⟩ := T_X11_feed xs L N (xs (x3 + 1).toNatClampNeg) (xs (x3 + 2).toNatClampNeg) (xs (x3 + 3).toNatClampNeg) (xs (x3 + 4).toNatClampNeg) (xs (x3 + 5).toNatClampNeg) σ (y10, σ11) h12 hG
        refine ev_a (fun he => ev_callV (as := [.int (xs (x3 + 1).toNatClampNeg), .int (xs (x3 + 2).toNatClampNeg), .int (xs (x3 + 3).toNatClampNeg), .int (xs (x3 + 4).toNatClampNeg), .int (xs (x3 + 5).toNatClampNeg)]) rfl (gr_ob (n := 9) hG rfl) rfl rfl rfl (Nat.le_of_ble_eq_true rfl) (Nat.le_of_ble_eq_true rfl) c13 he) ?_
        refine ev_a (fun he => ev_aload rfl rfl he) ?_
        refine ev_a (fun he => ev_aloadF rfl rfl he) ?_
        refine ev_a (fun he => ev_iload rfl rfl he) ?_
        refine ev_a (fun he => ev_push rfl he) ?_
        refine ev_a (fun he => ev_bin (z := x3 + 1) rfl rfl he) ?_
        obtain ⟨hc15, h⟩ := cO_inv h
        refine ev_a (fun he => ev_sld rfl hc15 he) ?_
        refine ev_a (fun he => ev_aloadF rfl rfl he) ?_
        refine ev_a (fun he => ev_iload rfl rfl he) ?_
        refine ev_a (fun he => ev_push rfl he) ?_
        refine ev_a (fun he => ev_bin (z := x3 + 2) rfl rfl he) ?_
        obtain ⟨hc16, h⟩ := cO_inv h
        refine ev_a (fun he => ev_sld rfl hc16 he) ?_
        refine ev_a (fun he => ev_aloadF rfl rfl he) ?_
        refine ev_a (fun he => ev_iload rfl rfl he) ?_
        refine ev_a (fun he => ev_push rfl he) ?_
        refine ev_a (fun he => ev_bin (z := x3 + 3) rfl rfl he) ?_
        obtain ⟨hc17, h⟩ := cO_inv h
        refine ev_a (fun he => ev_sld rfl hc17 he) ?_
        refine ev_a (fun he => ev_aloadF rfl rfl he) ?_
        refine ev_a (fun he => ev_iload rfl rfl he) ?_
        refine ev_a (fun he => ev_push rfl he) ?_
        refine ev_a (fun he => ev_bin (z := x3 + 4) rfl rfl he) ?_
        obtain ⟨hc18, h⟩ := cO_inv h
        refine ev_a (fun he => ev_sld rfl hc18 he) ?_
        refine ev_a (fun he => ev_aloadF rfl rfl he) ?_
        refine ev_a (fun he => ev_iload rfl rfl he) ?_
        refine ev_a (fun he => ev_push rfl he) ?_
        refine ev_a (fun he => ev_bin (z := x3 + 5) rfl rfl he) ?_
        obtain ⟨hc19, h⟩ := cO_inv h
        refine ev_a (fun he => ev_sld rfl hc19 he) ?_
        obtain ⟨y20, σ21, h22, h⟩ := oB_inv h
        obtain ⟨c23, hG24⟩ := T_X12_feed xs L N (xs (x3 + 1).toNatClampNeg) (xs (x3 + 2).toNatClampNeg) (xs (x3 + 3).toNatClampNeg) (xs (x3 + 4).toNatClampNeg) (xs (x3 + 5).toNatClampNeg) σ11 (y20, σ21) h22 hG14
        refine ev_a (fun he => ev_callV (as := [.int (xs (x3 + 1).toNatClampNeg), .int (xs (x3 + 2).toNatClampNeg), .int (xs (x3 + 3).toNatClampNeg), .int (xs (x3 + 4).toNatClampNeg), .int (xs (x3 + 5).toNatClampNeg)]) rfl (gr_ob (n := 80) hG14 rfl) rfl rfl rfl (Nat.le_of_ble_eq_true rfl) (Nat.le_of_ble_eq_true rfl) c23 he) ?_
        refine ev_b (c := y10 = y20) (fun ht hf => ev_ceq rfl ht hf) (fun hc25 => ?_) (fun hc25 => ?_)
        · rw [if_pos hc25] at h
          exact TJ_L_law_765 xs L N (H_L_law_18 xs L N n) hk18 x3 σ21 q h hG24
        · rw [if_neg hc25] at h
          refine ev_a (fun he => ev_push rfl he) ?_
          obtain ⟨hc26, h⟩ := cO_inv h
          cases h
          exact ⟨ev_retZ rfl hc26, hG24⟩
      · rw [if_neg hz4] at h
        by_cases hz27 : ((xs x3.toNatClampNeg) &&& 31) = 1
        · rw [if_pos hz27] at h
          refine ev_a (fun he => ev_tab (t := 195) rfl (by rw [hz27]; decide) he) ?_
          refine ev_a (fun he => ev_aload rfl rfl he) ?_
          refine ev_a (fun he => ev_aloadF rfl rfl he) ?_
          refine ev_a (fun he => ev_iload rfl rfl he) ?_
          refine ev_a (fun he => ev_push rfl he) ?_
          refine ev_a (fun he => ev_bin (z := x3 + 1) rfl rfl he) ?_
          obtain ⟨hc28, h⟩ := cO_inv h
          refine ev_a (fun he => ev_sld rfl hc28 he) ?_
          obtain ⟨y29, σ30, h31, h⟩ := oB_inv h
          obtain ⟨c32, hG33⟩ := T_X11_back xs L N (xs (x3 + 1).toNatClampNeg) σ (y29, σ30) h31 hG
          refine ev_a (fun he => ev_callV (as := [.int (xs (x3 + 1).toNatClampNeg)]) rfl (gr_ob (n := 9) hG rfl) rfl rfl rfl (Nat.le_of_ble_eq_true rfl) (Nat.le_of_ble_eq_true rfl) c32 he) ?_
          refine ev_a (fun he => ev_aload rfl rfl he) ?_
          refine ev_a (fun he => ev_aloadF rfl rfl he) ?_
          refine ev_a (fun he => ev_iload rfl rfl he) ?_
          refine ev_a (fun he => ev_push rfl he) ?_
          refine ev_a (fun he => ev_bin (z := x3 + 1) rfl rfl he) ?_
          obtain ⟨hc34, h⟩ := cO_inv h
          refine ev_a (fun he => ev_sld rfl hc34 he) ?_
          obtain ⟨y35, σ36, h37, h⟩ := oB_inv h
          obtain ⟨c38, hG39⟩ := T_X12_back xs L N (xs (x3 + 1).toNatClampNeg) σ30 (y35, σ36) h37 hG33
          refine ev_a (fun he => ev_callV (as := [.int (xs (x3 + 1).toNatClampNeg)]) rfl (gr_ob (n := 80) hG33 rfl) rfl rfl rfl (Nat.le_of_ble_eq_true rfl) (Nat.le_of_ble_eq_true rfl) c38 he) ?_
          refine ev_b (c := y29 = y35) (fun ht hf => ev_ceq rfl ht hf) (fun hc40 => ?_) (fun hc40 => ?_)
          · rw [if_pos hc40] at h
            exact TJ_L_law_765 xs L N (H_L_law_18 xs L N n) hk18 x3 σ36 q h hG39
          · rw [if_neg hc40] at h
            refine ev_a (fun he => ev_push rfl he) ?_
            obtain ⟨hc41, h⟩ := cO_inv h
            cases h
            exact ⟨ev_retZ rfl hc41, hG39⟩
        · rw [if_neg hz27] at h
          by_cases hz42 : ((xs x3.toNatClampNeg) &&& 31) = 2
          · rw [if_pos hz42] at h
            refine ev_a (fun he => ev_tab (t := 218) rfl (by rw [hz42]; decide) he) ?_
            refine ev_a (fun he => ev_aload rfl rfl he) ?_
            refine ev_a (fun he => ev_aloadF rfl rfl he) ?_
            refine ev_a (fun he => ev_iload rfl rfl he) ?_
            refine ev_a (fun he => ev_push rfl he) ?_
            refine ev_a (fun he => ev_bin (z := x3 + 1) rfl rfl he) ?_
            obtain ⟨hc43, h⟩ := cO_inv h
            refine ev_a (fun he => ev_sld rfl hc43 he) ?_
            obtain ⟨y44, σ45, h46, h⟩ := oB_inv h
            obtain ⟨c47, hG48⟩ := T_X11_read xs L N (xs (x3 + 1).toNatClampNeg) σ (y44, σ45) h46 hG
            refine ev_a (fun he => ev_callV (as := [.int (xs (x3 + 1).toNatClampNeg)]) rfl (gr_ob (n := 9) hG rfl) rfl rfl rfl (Nat.le_of_ble_eq_true rfl) (Nat.le_of_ble_eq_true rfl) c47 he) ?_
            refine ev_a (fun he => ev_aload rfl rfl he) ?_
            refine ev_a (fun he => ev_aloadF rfl rfl he) ?_
            refine ev_a (fun he => ev_iload rfl rfl he) ?_
            refine ev_a (fun he => ev_push rfl he) ?_
            refine ev_a (fun he => ev_bin (z := x3 + 1) rfl rfl he) ?_
            obtain ⟨hc49, h⟩ := cO_inv h
            refine ev_a (fun he => ev_sld rfl hc49 he) ?_
            obtain ⟨y50, σ51, h52, h⟩ := oB_inv h
            obtain ⟨c53, hG54⟩ := T_X12_read xs L N (xs (x3 + 1).toNatClampNeg) σ45 (y50, σ51) h52 hG48
            refine ev_a (fun he => ev_callV (as := [.int (xs (x3 + 1).toNatClampNeg)]) rfl (gr_ob (n := 80) hG48 rfl) rfl rfl rfl (Nat.le_of_ble_eq_true rfl) (Nat.le_of_ble_eq_true rfl) c53 he) ?_
            refine ev_b (c := y44 = y50) (fun ht hf => ev_ceq rfl ht hf) (fun hc55 => ?_) (fun hc55 => ?_)
            · rw [if_pos hc55] at h
              exact TJ_L_law_765 xs L N (H_L_law_18 xs L N n) hk18 x3 σ51 q h hG54
            · rw [if_neg hc55] at h
              refine ev_a (fun he => ev_push rfl he) ?_
              obtain ⟨hc56, h⟩ := cO_inv h
              cases h
              exact ⟨ev_retZ rfl hc56, hG54⟩
          · rw [if_neg hz42] at h
            by_cases hz57 : ((xs x3.toNatClampNeg) &&& 31) = 3
            · rw [if_pos hz57] at h
              refine ev_a (fun he => ev_tab (t := 241) rfl (by rw [hz57]; decide) he) ?_
              refine ev_a (fun he => ev_aload rfl rfl he) ?_
              obtain ⟨y58, σ59, h60, h⟩ := oB_inv h
              obtain ⟨c61, hG62⟩ := T_X11_place xs L N σ (y58, σ59) h60 hG
              refine ev_a (fun he => ev_callV (as := []) rfl (gr_ob (n := 9) hG rfl) rfl rfl rfl (Nat.le_of_ble_eq_true rfl) (Nat.le_of_ble_eq_true rfl) c61 he) ?_
              refine ev_a (fun he => ev_aload rfl rfl he) ?_
              obtain ⟨y63, σ64, h65, h⟩ := oB_inv h
              obtain ⟨c66, hG67⟩ := T_X12_place xs L N σ59 (y63, σ64) h65 hG62
              refine ev_a (fun he => ev_callV (as := []) rfl (gr_ob (n := 80) hG62 rfl) rfl rfl rfl (Nat.le_of_ble_eq_true rfl) (Nat.le_of_ble_eq_true rfl) c66 he) ?_
              refine ev_b (c := y58 = y63) (fun ht hf => ev_ceq rfl ht hf) (fun hc68 => ?_) (fun hc68 => ?_)
              · rw [if_pos hc68] at h
                exact TJ_L_law_765 xs L N (H_L_law_18 xs L N n) hk18 x3 σ64 q h hG67
              · rw [if_neg hc68] at h
                refine ev_a (fun he => ev_push rfl he) ?_
                obtain ⟨hc69, h⟩ := cO_inv h
                cases h
                exact ⟨ev_retZ rfl hc69, hG67⟩
            · rw [if_neg hz57] at h
              by_cases hz70 : ((xs x3.toNatClampNeg) &&& 31) = 4
              · rw [if_pos hz70] at h
                refine ev_a (fun he => ev_tab (t := 254) rfl (by rw [hz70]; decide) he) ?_
                refine ev_a (fun he => ev_aload rfl rfl he) ?_
                refine ev_a (fun he => ev_aloadF rfl rfl he) ?_
                refine ev_a (fun he => ev_iload rfl rfl he) ?_
                refine ev_a (fun he => ev_push rfl he) ?_
                refine ev_a (fun he => ev_bin (z := x3 + 1) rfl rfl he) ?_
                obtain ⟨hc71, h⟩ := cO_inv h
                refine ev_a (fun he => ev_sld rfl hc71 he) ?_
                refine ev_a (fun he => ev_aloadF rfl rfl he) ?_
                refine ev_a (fun he => ev_iload rfl rfl he) ?_
                refine ev_a (fun he => ev_push rfl he) ?_
                refine ev_a (fun he => ev_bin (z := x3 + 2) rfl rfl he) ?_
                obtain ⟨hc72, h⟩ := cO_inv h
                refine ev_a (fun he => ev_sld rfl hc72 he) ?_
                refine ev_a (fun he => ev_aloadF rfl rfl he) ?_
                refine ev_a (fun he => ev_iload rfl rfl he) ?_
                refine ev_a (fun he => ev_push rfl he) ?_
                refine ev_a (fun he => ev_bin (z := x3 + 3) rfl rfl he) ?_
                obtain ⟨hc73, h⟩ := cO_inv h
                refine ev_a (fun he => ev_sld rfl hc73 he) ?_
                refine ev_a (fun he => ev_aloadF rfl rfl he) ?_
                refine ev_a (fun he => ev_iload rfl rfl he) ?_
                refine ev_a (fun he => ev_push rfl he) ?_
                refine ev_a (fun he => ev_bin (z := x3 + 4) rfl rfl he) ?_
                obtain ⟨hc74, h⟩ := cO_inv h
                refine ev_a (fun he => ev_sld rfl hc74 he) ?_
                refine ev_a (fun he => ev_aloadF rfl rfl he) ?_
                refine ev_a (fun he => ev_iload rfl rfl he) ?_
                refine ev_a (fun he => ev_push rfl he) ?_
                refine ev_a (fun he => ev_bin (z := x3 + 5) rfl rfl he) ?_
                obtain ⟨hc75, h⟩ := cO_inv h
                refine ev_a (fun he => ev_sld rfl hc75 he) ?_
                obtain ⟨y76, σ77, h78, h⟩ := oB_inv h
                obtain ⟨c79, hG80⟩ := T_X11_lot xs L N (xs (x3 + 1).toNatClampNeg) (xs (x3 + 2).toNatClampNeg) (xs (x3 + 3).toNatClampNeg) (xs (x3 + 4).toNatClampNeg) (xs (x3 + 5).toNatClampNeg) σ (y76, σ77) h78 hG
                refine ev_a (fun he => ev_callV (as := [.int (xs (x3 + 1).toNatClampNeg), .int (xs (x3 + 2).toNatClampNeg), .int (xs (x3 + 3).toNatClampNeg), .int (xs (x3 + 4).toNatClampNeg), .int (xs (x3 + 5).toNatClampNeg)]) rfl (gr_ob (n := 9) hG rfl) rfl rfl rfl (Nat.le_of_ble_eq_true rfl) (Nat.le_of_ble_eq_true rfl) c79 he) ?_
                refine ev_a (fun he => ev_aload rfl rfl he) ?_
                refine ev_a (fun he => ev_aloadF rfl rfl he) ?_
                refine ev_a (fun he => ev_iload rfl rfl he) ?_
                refine ev_a (fun he => ev_push rfl he) ?_
                refine ev_a (fun he => ev_bin (z := x3 + 1) rfl rfl he) ?_
                obtain ⟨hc81, h⟩ := cO_inv h
                refine ev_a (fun he => ev_sld rfl hc81 he) ?_
                refine ev_a (fun he => ev_aloadF rfl rfl he) ?_
                refine ev_a (fun he => ev_iload rfl rfl he) ?_
                refine ev_a (fun he => ev_push rfl he) ?_
                refine ev_a (fun he => ev_bin (z := x3 + 2) rfl rfl he) ?_
                obtain ⟨hc82, h⟩ := cO_inv h
                refine ev_a (fun he => ev_sld rfl hc82 he) ?_
                refine ev_a (fun he => ev_aloadF rfl rfl he) ?_
                refine ev_a (fun he => ev_iload rfl rfl he) ?_
                refine ev_a (fun he => ev_push rfl he) ?_
                refine ev_a (fun he => ev_bin (z := x3 + 3) rfl rfl he) ?_
                obtain ⟨hc83, h⟩ := cO_inv h
                refine ev_a (fun he => ev_sld rfl hc83 he) ?_
                refine ev_a (fun he => ev_aloadF rfl rfl he) ?_
                refine ev_a (fun he => ev_iload rfl rfl he) ?_
                refine ev_a (fun he => ev_push rfl he) ?_
                refine ev_a (fun he => ev_bin (z := x3 + 4) rfl rfl he) ?_
                obtain ⟨hc84, h⟩ := cO_inv h
                refine ev_a (fun he => ev_sld rfl hc84 he) ?_
                refine ev_a (fun he => ev_aloadF rfl rfl he) ?_
                refine ev_a (fun he => ev_iload rfl rfl he) ?_
                refine ev_a (fun he => ev_push rfl he) ?_
                refine ev_a (fun he => ev_bin (z := x3 + 5) rfl rfl he) ?_
                obtain ⟨hc85, h⟩ := cO_inv h
                refine ev_a (fun he => ev_sld rfl hc85 he) ?_
                obtain ⟨y86, σ87, h88, h⟩ := oB_inv h
                obtain ⟨c89, hG90⟩ := T_X12_lot xs L N (xs (x3 + 1).toNatClampNeg) (xs (x3 + 2).toNatClampNeg) (xs (x3 + 3).toNatClampNeg) (xs (x3 + 4).toNatClampNeg) (xs (x3 + 5).toNatClampNeg) σ77 (y86, σ87) h88 hG80
                refine ev_a (fun he => ev_callV (as := [.int (xs (x3 + 1).toNatClampNeg), .int (xs (x3 + 2).toNatClampNeg), .int (xs (x3 + 3).toNatClampNeg), .int (xs (x3 + 4).toNatClampNeg), .int (xs (x3 + 5).toNatClampNeg)]) rfl (gr_ob (n := 80) hG80 rfl) rfl rfl rfl (Nat.le_of_ble_eq_true rfl) (Nat.le_of_ble_eq_true rfl) c89 he) ?_
                refine ev_b (c := y76 = y86) (fun ht hf => ev_ceq rfl ht hf) (fun hc91 => ?_) (fun hc91 => ?_)
                · rw [if_pos hc91] at h
                  exact TJ_L_law_765 xs L N (H_L_law_18 xs L N n) hk18 x3 σ87 q h hG90
                · rw [if_neg hc91] at h
                  refine ev_a (fun he => ev_push rfl he) ?_
                  obtain ⟨hc92, h⟩ := cO_inv h
                  cases h
                  exact ⟨ev_retZ rfl hc92, hG90⟩
              · rw [if_neg hz70] at h
                by_cases hz93 : ((xs x3.toNatClampNeg) &&& 31) = 5
                · rw [if_pos hz93] at h
                  refine ev_a (fun he => ev_tab (t := 317) rfl (by rw [hz93]; decide) he) ?_
                  refine ev_a (fun he => ev_aload rfl rfl he) ?_
                  refine ev_a (fun he => ev_aloadF rfl rfl he) ?_
                  refine ev_a (fun he => ev_iload rfl rfl he) ?_
                  refine ev_a (fun he => ev_push rfl he) ?_
                  refine ev_a (fun he => ev_bin (z := x3 + 1) rfl rfl he) ?_
                  obtain ⟨hc94, h⟩ := cO_inv h
                  refine ev_a (fun he => ev_sld rfl hc94 he) ?_
                  refine ev_a (fun he => ev_aloadF rfl rfl he) ?_
                  refine ev_a (fun he => ev_iload rfl rfl he) ?_
                  refine ev_a (fun he => ev_push rfl he) ?_
                  refine ev_a (fun he => ev_bin (z := x3 + 2) rfl rfl he) ?_
                  obtain ⟨hc95, h⟩ := cO_inv h
                  refine ev_a (fun he => ev_sld rfl hc95 he) ?_
                  obtain ⟨y96, σ97, h98, h⟩ := oB_inv h
                  obtain ⟨c99, hG100⟩ := T_X11_buyer xs L N (xs (x3 + 1).toNatClampNeg) (xs (x3 + 2).toNatClampNeg) σ (y96, σ97) h98 hG
                  refine ev_a (fun he => ev_callV (as := [.int (xs (x3 + 1).toNatClampNeg), .int (xs (x3 + 2).toNatClampNeg)]) rfl (gr_ob (n := 9) hG rfl) rfl rfl rfl (Nat.le_of_ble_eq_true rfl) (Nat.le_of_ble_eq_true rfl) c99 he) ?_
                  refine ev_a (fun he => ev_aload rfl rfl he) ?_
                  refine ev_a (fun he => ev_aloadF rfl rfl he) ?_
                  refine ev_a (fun he => ev_iload rfl rfl he) ?_
                  refine ev_a (fun he => ev_push rfl he) ?_
                  refine ev_a (fun he => ev_bin (z := x3 + 1) rfl rfl he) ?_
                  obtain ⟨hc101, h⟩ := cO_inv h
                  refine ev_a (fun he => ev_sld rfl hc101 he) ?_
                  refine ev_a (fun he => ev_aloadF rfl rfl he) ?_
                  refine ev_a (fun he => ev_iload rfl rfl he) ?_
                  refine ev_a (fun he => ev_push rfl he) ?_
                  refine ev_a (fun he => ev_bin (z := x3 + 2) rfl rfl he) ?_
                  obtain ⟨hc102, h⟩ := cO_inv h
                  refine ev_a (fun he => ev_sld rfl hc102 he) ?_
                  obtain ⟨y103, σ104, h105, h⟩ := oB_inv h
                  obtain ⟨c106, hG107⟩ := T_X12_buyer xs L N (xs (x3 + 1).toNatClampNeg) (xs (x3 + 2).toNatClampNeg) σ97 (y103, σ104) h105 hG100
                  refine ev_a (fun he => ev_callV (as := [.int (xs (x3 + 1).toNatClampNeg), .int (xs (x3 + 2).toNatClampNeg)]) rfl (gr_ob (n := 80) hG100 rfl) rfl rfl rfl (Nat.le_of_ble_eq_true rfl) (Nat.le_of_ble_eq_true rfl) c106 he) ?_
                  refine ev_b (c := y96 = y103) (fun ht hf => ev_ceq rfl ht hf) (fun hc108 => ?_) (fun hc108 => ?_)
                  · rw [if_pos hc108] at h
                    exact TJ_L_law_765 xs L N (H_L_law_18 xs L N n) hk18 x3 σ104 q h hG107
                  · rw [if_neg hc108] at h
                    refine ev_a (fun he => ev_push rfl he) ?_
                    obtain ⟨hc109, h⟩ := cO_inv h
                    cases h
                    exact ⟨ev_retZ rfl hc109, hG107⟩
                · rw [if_neg hz93] at h
                  by_cases hz110 : ((xs x3.toNatClampNeg) &&& 31) = 6
                  · rw [if_pos hz110] at h
                    refine ev_a (fun he => ev_tab (t := 350) rfl (by rw [hz110]; decide) he) ?_
                    refine ev_a (fun he => ev_aload rfl rfl he) ?_
                    refine ev_a (fun he => ev_aloadF rfl rfl he) ?_
                    refine ev_a (fun he => ev_iload rfl rfl he) ?_
                    refine ev_a (fun he => ev_push rfl he) ?_
                    refine ev_a (fun he => ev_bin (z := x3 + 1) rfl rfl he) ?_
                    obtain ⟨hc111, h⟩ := cO_inv h
                    refine ev_a (fun he => ev_sld rfl hc111 he) ?_
                    refine ev_a (fun he => ev_aloadF rfl rfl he) ?_
                    refine ev_a (fun he => ev_iload rfl rfl he) ?_
                    refine ev_a (fun he => ev_push rfl he) ?_
                    refine ev_a (fun he => ev_bin (z := x3 + 2) rfl rfl he) ?_
                    obtain ⟨hc112, h⟩ := cO_inv h
                    refine ev_a (fun he => ev_sld rfl hc112 he) ?_
                    refine ev_a (fun he => ev_aloadF rfl rfl he) ?_
                    refine ev_a (fun he => ev_iload rfl rfl he) ?_
                    refine ev_a (fun he => ev_push rfl he) ?_
                    refine ev_a (fun he => ev_bin (z := x3 + 3) rfl rfl he) ?_
                    obtain ⟨hc113, h⟩ := cO_inv h
                    refine ev_a (fun he => ev_sld rfl hc113 he) ?_
                    obtain ⟨y114, σ115, h116, h⟩ := oB_inv h
                    obtain ⟨c117, hG118⟩ := T_X11_want xs L N (xs (x3 + 1).toNatClampNeg) (xs (x3 + 2).toNatClampNeg) (xs (x3 + 3).toNatClampNeg) σ (y114, σ115) h116 hG
                    refine ev_a (fun he => ev_callV (as := [.int (xs (x3 + 1).toNatClampNeg), .int (xs (x3 + 2).toNatClampNeg), .int (xs (x3 + 3).toNatClampNeg)]) rfl (gr_ob (n := 9) hG rfl) rfl rfl rfl (Nat.le_of_ble_eq_true rfl) (Nat.le_of_ble_eq_true rfl) c117 he) ?_
                    refine ev_a (fun he => ev_aload rfl rfl he) ?_
                    refine ev_a (fun he => ev_aloadF rfl rfl he) ?_
                    refine ev_a (fun he => ev_iload rfl rfl he) ?_
                    refine ev_a (fun he => ev_push rfl he) ?_
                    refine ev_a (fun he => ev_bin (z := x3 + 1) rfl rfl he) ?_
                    obtain ⟨hc119, h⟩ := cO_inv h
                    refine ev_a (fun he => ev_sld rfl hc119 he) ?_
                    refine ev_a (fun he => ev_aloadF rfl rfl he) ?_
                    refine ev_a (fun he => ev_iload rfl rfl he) ?_
                    refine ev_a (fun he => ev_push rfl he) ?_
                    refine ev_a (fun he => ev_bin (z := x3 + 2) rfl rfl he) ?_
                    obtain ⟨hc120, h⟩ := cO_inv h
                    refine ev_a (fun he => ev_sld rfl hc120 he) ?_
                    refine ev_a (fun he => ev_aloadF rfl rfl he) ?_
                    refine ev_a (fun he => ev_iload rfl rfl he) ?_
                    refine ev_a (fun he => ev_push rfl he) ?_
                    refine ev_a (fun he => ev_bin (z := x3 + 3) rfl rfl he) ?_
                    obtain ⟨hc121, h⟩ := cO_inv h
                    refine ev_a (fun he => ev_sld rfl hc121 he) ?_
                    obtain ⟨y122, σ123, h124, h⟩ := oB_inv h
                    obtain ⟨c125, hG126⟩ := T_X12_want xs L N (xs (x3 + 1).toNatClampNeg) (xs (x3 + 2).toNatClampNeg) (xs (x3 + 3).toNatClampNeg) σ115 (y122, σ123) h124 hG118
                    refine ev_a (fun he => ev_callV (as := [.int (xs (x3 + 1).toNatClampNeg), .int (xs (x3 + 2).toNatClampNeg), .int (xs (x3 + 3).toNatClampNeg)]) rfl (gr_ob (n := 80) hG118 rfl) rfl rfl rfl (Nat.le_of_ble_eq_true rfl) (Nat.le_of_ble_eq_true rfl) c125 he) ?_
                    refine ev_b (c := y114 = y122) (fun ht hf => ev_ceq rfl ht hf) (fun hc127 => ?_) (fun hc127 => ?_)
                    · rw [if_pos hc127] at h
                      exact TJ_L_law_765 xs L N (H_L_law_18 xs L N n) hk18 x3 σ123 q h hG126
                    · rw [if_neg hc127] at h
                      refine ev_a (fun he => ev_push rfl he) ?_
                      obtain ⟨hc128, h⟩ := cO_inv h
                      cases h
                      exact ⟨ev_retZ rfl hc128, hG126⟩
                  · rw [if_neg hz110] at h
                    by_cases hz129 : ((xs x3.toNatClampNeg) &&& 31) = 7
                    · rw [if_pos hz129] at h
                      refine ev_a (fun he => ev_tab (t := 393) rfl (by rw [hz129]; decide) he) ?_
                      refine ev_a (fun he => ev_aload rfl rfl he) ?_
                      refine ev_a (fun he => ev_aloadF rfl rfl he) ?_
                      refine ev_a (fun he => ev_iload rfl rfl he) ?_
                      refine ev_a (fun he => ev_push rfl he) ?_
                      refine ev_a (fun he => ev_bin (z := x3 + 1) rfl rfl he) ?_
                      obtain ⟨hc130, h⟩ := cO_inv h
                      refine ev_a (fun he => ev_sld rfl hc130 he) ?_
                      refine ev_a (fun he => ev_aloadF rfl rfl he) ?_
                      refine ev_a (fun he => ev_iload rfl rfl he) ?_
                      refine ev_a (fun he => ev_push rfl he) ?_
                      refine ev_a (fun he => ev_bin (z := x3 + 2) rfl rfl he) ?_
                      obtain ⟨hc131, h⟩ := cO_inv h
                      refine ev_a (fun he => ev_sld rfl hc131 he) ?_
                      refine ev_a (fun he => ev_aloadF rfl rfl he) ?_
                      refine ev_a (fun he => ev_iload rfl rfl he) ?_
                      refine ev_a (fun he => ev_push rfl he) ?_
                      refine ev_a (fun he => ev_bin (z := x3 + 3) rfl rfl he) ?_
                      obtain ⟨hc132, h⟩ := cO_inv h
                      refine ev_a (fun he => ev_sld rfl hc132 he) ?_
                      obtain ⟨y133, σ134, h135, h⟩ := oB_inv h
                      obtain ⟨c136, hG137⟩ := T_X11_lorry xs L N (xs (x3 + 1).toNatClampNeg) (xs (x3 + 2).toNatClampNeg) (xs (x3 + 3).toNatClampNeg) σ (y133, σ134) h135 hG
                      refine ev_a (fun he => ev_callV (as := [.int (xs (x3 + 1).toNatClampNeg), .int (xs (x3 + 2).toNatClampNeg), .int (xs (x3 + 3).toNatClampNeg)]) rfl (gr_ob (n := 9) hG rfl) rfl rfl rfl (Nat.le_of_ble_eq_true rfl) (Nat.le_of_ble_eq_true rfl) c136 he) ?_
                      refine ev_a (fun he => ev_aload rfl rfl he) ?_
                      refine ev_a (fun he => ev_aloadF rfl rfl he) ?_
                      refine ev_a (fun he => ev_iload rfl rfl he) ?_
                      refine ev_a (fun he => ev_push rfl he) ?_
                      refine ev_a (fun he => ev_bin (z := x3 + 1) rfl rfl he) ?_
                      obtain ⟨hc138, h⟩ := cO_inv h
                      refine ev_a (fun he => ev_sld rfl hc138 he) ?_
                      refine ev_a (fun he => ev_aloadF rfl rfl he) ?_
                      refine ev_a (fun he => ev_iload rfl rfl he) ?_
                      refine ev_a (fun he => ev_push rfl he) ?_
                      refine ev_a (fun he => ev_bin (z := x3 + 2) rfl rfl he) ?_
                      obtain ⟨hc139, h⟩ := cO_inv h
                      refine ev_a (fun he => ev_sld rfl hc139 he) ?_
                      refine ev_a (fun he => ev_aloadF rfl rfl he) ?_
                      refine ev_a (fun he => ev_iload rfl rfl he) ?_
                      refine ev_a (fun he => ev_push rfl he) ?_
                      refine ev_a (fun he => ev_bin (z := x3 + 3) rfl rfl he) ?_
                      obtain ⟨hc140, h⟩ := cO_inv h
                      refine ev_a (fun he => ev_sld rfl hc140 he) ?_
                      obtain ⟨y141, σ142, h143, h⟩ := oB_inv h
                      obtain ⟨c144, hG145⟩ := T_X12_lorry xs L N (xs (x3 + 1).toNatClampNeg) (xs (x3 + 2).toNatClampNeg) (xs (x3 + 3).toNatClampNeg) σ134 (y141, σ142) h143 hG137
                      refine ev_a (fun he => ev_callV (as := [.int (xs (x3 + 1).toNatClampNeg), .int (xs (x3 + 2).toNatClampNeg), .int (xs (x3 + 3).toNatClampNeg)]) rfl (gr_ob (n := 80) hG137 rfl) rfl rfl rfl (Nat.le_of_ble_eq_true rfl) (Nat.le_of_ble_eq_true rfl) c144 he) ?_
                      refine ev_b (c := y133 = y141) (fun ht hf => ev_ceq rfl ht hf) (fun hc146 => ?_) (fun hc146 => ?_)
                      · rw [if_pos hc146] at h
                        exact TJ_L_law_765 xs L N (H_L_law_18 xs L N n) hk18 x3 σ142 q h hG145
                      · rw [if_neg hc146] at h
                        refine ev_a (fun he => ev_push rfl he) ?_
                        obtain ⟨hc147, h⟩ := cO_inv h
                        cases h
                        exact ⟨ev_retZ rfl hc147, hG145⟩
                    · rw [if_neg hz129] at h
                      by_cases hz148 : ((xs x3.toNatClampNeg) &&& 31) = 8
                      · rw [if_pos hz148] at h
                        refine ev_a (fun he => ev_tab (t := 436) rfl (by rw [hz148]; decide) he) ?_
                        refine ev_a (fun he => ev_aload rfl rfl he) ?_
                        obtain ⟨y149, σ150, h151, h⟩ := oB_inv h
                        obtain ⟨c152, hG153⟩ := T_X11_sale xs L N σ (y149, σ150) h151 hG
                        refine ev_a (fun he => ev_callV (as := []) rfl (gr_ob (n := 9) hG rfl) rfl rfl rfl (Nat.le_of_ble_eq_true rfl) (Nat.le_of_ble_eq_true rfl) c152 he) ?_
                        refine ev_a (fun he => ev_aload rfl rfl he) ?_
                        obtain ⟨y154, σ155, h156, h⟩ := oB_inv h
                        obtain ⟨c157, hG158⟩ := T_X12_sale xs L N σ150 (y154, σ155) h156 hG153
                        refine ev_a (fun he => ev_callV (as := []) rfl (gr_ob (n := 80) hG153 rfl) rfl rfl rfl (Nat.le_of_ble_eq_true rfl) (Nat.le_of_ble_eq_true rfl) c157 he) ?_
                        refine ev_b (c := y149 = y154) (fun ht hf => ev_ceq rfl ht hf) (fun hc159 => ?_) (fun hc159 => ?_)
                        · rw [if_pos hc159] at h
                          exact TJ_L_law_765 xs L N (H_L_law_18 xs L N n) hk18 x3 σ155 q h hG158
                        · rw [if_neg hc159] at h
                          refine ev_a (fun he => ev_push rfl he) ?_
                          obtain ⟨hc160, h⟩ := cO_inv h
                          cases h
                          exact ⟨ev_retZ rfl hc160, hG158⟩
                      · rw [if_neg hz148] at h
                        by_cases hz161 : ((xs x3.toNatClampNeg) &&& 31) = 9
                        · rw [if_pos hz161] at h
                          refine ev_a (fun he => ev_tab (t := 449) rfl (by rw [hz161]; decide) he) ?_
                          refine ev_a (fun he => ev_aload rfl rfl he) ?_
                          obtain ⟨y162, σ163, h164, h⟩ := oB_inv h
                          obtain ⟨c165, hG166⟩ := T_X11_day xs L N σ (y162, σ163) h164 hG
                          refine ev_a (fun he => ev_callV (as := []) rfl (gr_ob (n := 9) hG rfl) rfl rfl rfl (Nat.le_of_ble_eq_true rfl) (Nat.le_of_ble_eq_true rfl) c165 he) ?_
                          refine ev_a (fun he => ev_aload rfl rfl he) ?_
                          obtain ⟨y167, σ168, h169, h⟩ := oB_inv h
                          obtain ⟨c170, hG171⟩ := T_X12_day xs L N σ163 (y167, σ168) h169 hG166
                          refine ev_a (fun he => ev_callV (as := []) rfl (gr_ob (n := 80) hG166 rfl) rfl rfl rfl (Nat.le_of_ble_eq_true rfl) (Nat.le_of_ble_eq_true rfl) c170 he) ?_
                          refine ev_b (c := y162 = y167) (fun ht hf => ev_ceq rfl ht hf) (fun hc172 => ?_) (fun hc172 => ?_)
                          · rw [if_pos hc172] at h
                            exact TJ_L_law_765 xs L N (H_L_law_18 xs L N n) hk18 x3 σ168 q h hG171
                          · rw [if_neg hc172] at h
                            refine ev_a (fun he => ev_push rfl he) ?_
                            obtain ⟨hc173, h⟩ := cO_inv h
                            cases h
                            exact ⟨ev_retZ rfl hc173, hG171⟩
                        · rw [if_neg hz161] at h
                          by_cases hz174 : ((xs x3.toNatClampNeg) &&& 31) = 10
                          · rw [if_pos hz174] at h
                            refine ev_a (fun he => ev_tab (t := 462) rfl (by rw [hz174]; decide) he) ?_
                            refine ev_a (fun he => ev_aload rfl rfl he) ?_
                            refine ev_a (fun he => ev_aloadF rfl rfl he) ?_
                            refine ev_a (fun he => ev_iload rfl rfl he) ?_
                            refine ev_a (fun he => ev_push rfl he) ?_
                            refine ev_a (fun he => ev_bin (z := x3 + 1) rfl rfl he) ?_
                            obtain ⟨hc175, h⟩ := cO_inv h
                            refine ev_a (fun he => ev_sld rfl hc175 he) ?_
                            refine ev_a (fun he => ev_aloadF rfl rfl he) ?_
                            refine ev_a (fun he => ev_iload rfl rfl he) ?_
                            refine ev_a (fun he => ev_push rfl he) ?_
                            refine ev_a (fun he => ev_bin (z := x3 + 2) rfl rfl he) ?_
                            obtain ⟨hc176, h⟩ := cO_inv h
                            refine ev_a (fun he => ev_sld rfl hc176 he) ?_
                            obtain ⟨y177, σ178, h179, h⟩ := oB_inv h
                            obtain ⟨c180, hG181⟩ := T_X11_told xs L N (xs (x3 + 1).toNatClampNeg) (xs (x3 + 2).toNatClampNeg) σ (y177, σ178) h179 hG
                            refine ev_a (fun he => ev_callV (as := [.int (xs (x3 + 1).toNatClampNeg), .int (xs (x3 + 2).toNatClampNeg)]) rfl (gr_ob (n := 9) hG rfl) rfl rfl rfl (Nat.le_of_ble_eq_true rfl) (Nat.le_of_ble_eq_true rfl) c180 he) ?_
                            refine ev_a (fun he => ev_aload rfl rfl he) ?_
                            refine ev_a (fun he => ev_aloadF rfl rfl he) ?_
                            refine ev_a (fun he => ev_iload rfl rfl he) ?_
                            refine ev_a (fun he => ev_push rfl he) ?_
                            refine ev_a (fun he => ev_bin (z := x3 + 1) rfl rfl he) ?_
                            obtain ⟨hc182, h⟩ := cO_inv h
                            refine ev_a (fun he => ev_sld rfl hc182 he) ?_
                            refine ev_a (fun he => ev_aloadF rfl rfl he) ?_
                            refine ev_a (fun he => ev_iload rfl rfl he) ?_
                            refine ev_a (fun he => ev_push rfl he) ?_
                            refine ev_a (fun he => ev_bin (z := x3 + 2) rfl rfl he) ?_
                            obtain ⟨hc183, h⟩ := cO_inv h
                            refine ev_a (fun he => ev_sld rfl hc183 he) ?_
                            obtain ⟨y184, σ185, h186, h⟩ := oB_inv h
                            obtain ⟨c187, hG188⟩ := T_X12_told xs L N (xs (x3 + 1).toNatClampNeg) (xs (x3 + 2).toNatClampNeg) σ178 (y184, σ185) h186 hG181
                            refine ev_a (fun he => ev_callV (as := [.int (xs (x3 + 1).toNatClampNeg), .int (xs (x3 + 2).toNatClampNeg)]) rfl (gr_ob (n := 80) hG181 rfl) rfl rfl rfl (Nat.le_of_ble_eq_true rfl) (Nat.le_of_ble_eq_true rfl) c187 he) ?_
                            refine ev_b (c := y177 = y184) (fun ht hf => ev_ceq rfl ht hf) (fun hc189 => ?_) (fun hc189 => ?_)
                            · rw [if_pos hc189] at h
                              exact TJ_L_law_765 xs L N (H_L_law_18 xs L N n) hk18 x3 σ185 q h hG188
                            · rw [if_neg hc189] at h
                              refine ev_a (fun he => ev_push rfl he) ?_
                              obtain ⟨hc190, h⟩ := cO_inv h
                              cases h
                              exact ⟨ev_retZ rfl hc190, hG188⟩
                          · rw [if_neg hz174] at h
                            by_cases hz191 : ((xs x3.toNatClampNeg) &&& 31) = 11
                            · rw [if_pos hz191] at h
                              refine ev_a (fun he => ev_tab (t := 495) rfl (by rw [hz191]; decide) he) ?_
                              refine ev_a (fun he => ev_aload rfl rfl he) ?_
                              refine ev_a (fun he => ev_aloadF rfl rfl he) ?_
                              refine ev_a (fun he => ev_iload rfl rfl he) ?_
                              refine ev_a (fun he => ev_push rfl he) ?_
                              refine ev_a (fun he => ev_bin (z := x3 + 1) rfl rfl he) ?_
                              obtain ⟨hc192, h⟩ := cO_inv h
                              refine ev_a (fun he => ev_sld rfl hc192 he) ?_
                              refine ev_a (fun he => ev_aloadF rfl rfl he) ?_
                              refine ev_a (fun he => ev_iload rfl rfl he) ?_
                              refine ev_a (fun he => ev_push rfl he) ?_
                              refine ev_a (fun he => ev_bin (z := x3 + 2) rfl rfl he) ?_
                              obtain ⟨hc193, h⟩ := cO_inv h
                              refine ev_a (fun he => ev_sld rfl hc193 he) ?_
                              obtain ⟨y194, σ195, h196, h⟩ := oB_inv h
                              obtain ⟨c197, hG198⟩ := T_X11_limit xs L N (xs (x3 + 1).toNatClampNeg) (xs (x3 + 2).toNatClampNeg) σ (y194, σ195) h196 hG
                              refine ev_a (fun he => ev_callV (as := [.int (xs (x3 + 1).toNatClampNeg), .int (xs (x3 + 2).toNatClampNeg)]) rfl (gr_ob (n := 9) hG rfl) rfl rfl rfl (Nat.le_of_ble_eq_true rfl) (Nat.le_of_ble_eq_true rfl) c197 he) ?_
                              refine ev_a (fun he => ev_aload rfl rfl he) ?_
                              refine ev_a (fun he => ev_aloadF rfl rfl he) ?_
                              refine ev_a (fun he => ev_iload rfl rfl he) ?_
                              refine ev_a (fun he => ev_push rfl he) ?_
                              refine ev_a (fun he => ev_bin (z := x3 + 1) rfl rfl he) ?_
                              obtain ⟨hc199, h⟩ := cO_inv h
                              refine ev_a (fun he => ev_sld rfl hc199 he) ?_
                              refine ev_a (fun he => ev_aloadF rfl rfl he) ?_
                              refine ev_a (fun he => ev_iload rfl rfl he) ?_
                              refine ev_a (fun he => ev_push rfl he) ?_
                              refine ev_a (fun he => ev_bin (z := x3 + 2) rfl rfl he) ?_
                              obtain ⟨hc200, h⟩ := cO_inv h
                              refine ev_a (fun he => ev_sld rfl hc200 he) ?_
                              obtain ⟨y201, σ202, h203, h⟩ := oB_inv h
                              obtain ⟨c204, hG205⟩ := T_X12_limit xs L N (xs (x3 + 1).toNatClampNeg) (xs (x3 + 2).toNatClampNeg) σ195 (y201, σ202) h203 hG198
                              refine ev_a (fun he => ev_callV (as := [.int (xs (x3 + 1).toNatClampNeg), .int (xs (x3 + 2).toNatClampNeg)]) rfl (gr_ob (n := 80) hG198 rfl) rfl rfl rfl (Nat.le_of_ble_eq_true rfl) (Nat.le_of_ble_eq_true rfl) c204 he) ?_
                              refine ev_b (c := y194 = y201) (fun ht hf => ev_ceq rfl ht hf) (fun hc206 => ?_) (fun hc206 => ?_)
                              · rw [if_pos hc206] at h
                                exact TJ_L_law_765 xs L N (H_L_law_18 xs L N n) hk18 x3 σ202 q h hG205
                              · rw [if_neg hc206] at h
                                refine ev_a (fun he => ev_push rfl he) ?_
                                obtain ⟨hc207, h⟩ := cO_inv h
                                cases h
                                exact ⟨ev_retZ rfl hc207, hG205⟩
                            · rw [if_neg hz191] at h
                              by_cases hz208 : ((xs x3.toNatClampNeg) &&& 31) = 12
                              · rw [if_pos hz208] at h
                                refine ev_a (fun he => ev_tab (t := 528) rfl (by rw [hz208]; decide) he) ?_
                                refine ev_a (fun he => ev_aload rfl rfl he) ?_
                                refine ev_a (fun he => ev_aloadF rfl rfl he) ?_
                                refine ev_a (fun he => ev_iload rfl rfl he) ?_
                                refine ev_a (fun he => ev_push rfl he) ?_
                                refine ev_a (fun he => ev_bin (z := x3 + 1) rfl rfl he) ?_
                                obtain ⟨hc209, h⟩ := cO_inv h
                                refine ev_a (fun he => ev_sld rfl hc209 he) ?_
                                refine ev_a (fun he => ev_aloadF rfl rfl he) ?_
                                refine ev_a (fun he => ev_iload rfl rfl he) ?_
                                refine ev_a (fun he => ev_push rfl he) ?_
                                refine ev_a (fun he => ev_bin (z := x3 + 2) rfl rfl he) ?_
                                obtain ⟨hc210, h⟩ := cO_inv h
                                refine ev_a (fun he => ev_sld rfl hc210 he) ?_
                                obtain ⟨y211, σ212, h213, h⟩ := oB_inv h
                                obtain ⟨c214, hG215⟩ := T_X11_rule xs L N (xs (x3 + 1).toNatClampNeg) (xs (x3 + 2).toNatClampNeg) σ (y211, σ212) h213 hG
                                refine ev_a (fun he => ev_callV (as := [.int (xs (x3 + 1).toNatClampNeg), .int (xs (x3 + 2).toNatClampNeg)]) rfl (gr_ob (n := 9) hG rfl) rfl rfl rfl (Nat.le_of_ble_eq_true rfl) (Nat.le_of_ble_eq_true rfl) c214 he) ?_
                                refine ev_a (fun he => ev_aload rfl rfl he) ?_
                                refine ev_a (fun he => ev_aloadF rfl rfl he) ?_
                                refine ev_a (fun he => ev_iload rfl rfl he) ?_
                                refine ev_a (fun he => ev_push rfl he) ?_
                                refine ev_a (fun he => ev_bin (z := x3 + 1) rfl rfl he) ?_
                                obtain ⟨hc216, h⟩ := cO_inv h
                                refine ev_a (fun he => ev_sld rfl hc216 he) ?_
                                refine ev_a (fun he => ev_aloadF rfl rfl he) ?_
                                refine ev_a (fun he => ev_iload rfl rfl he) ?_
                                refine ev_a (fun he => ev_push rfl he) ?_
                                refine ev_a (fun he => ev_bin (z := x3 + 2) rfl rfl he) ?_
                                obtain ⟨hc217, h⟩ := cO_inv h
                                refine ev_a (fun he => ev_sld rfl hc217 he) ?_
                                obtain ⟨y218, σ219, h220, h⟩ := oB_inv h
                                obtain ⟨c221, hG222⟩ := T_X12_rule xs L N (xs (x3 + 1).toNatClampNeg) (xs (x3 + 2).toNatClampNeg) σ212 (y218, σ219) h220 hG215
                                refine ev_a (fun he => ev_callV (as := [.int (xs (x3 + 1).toNatClampNeg), .int (xs (x3 + 2).toNatClampNeg)]) rfl (gr_ob (n := 80) hG215 rfl) rfl rfl rfl (Nat.le_of_ble_eq_true rfl) (Nat.le_of_ble_eq_true rfl) c221 he) ?_
                                refine ev_b (c := y211 = y218) (fun ht hf => ev_ceq rfl ht hf) (fun hc223 => ?_) (fun hc223 => ?_)
                                · rw [if_pos hc223] at h
                                  exact TJ_L_law_765 xs L N (H_L_law_18 xs L N n) hk18 x3 σ219 q h hG222
                                · rw [if_neg hc223] at h
                                  refine ev_a (fun he => ev_push rfl he) ?_
                                  obtain ⟨hc224, h⟩ := cO_inv h
                                  cases h
                                  exact ⟨ev_retZ rfl hc224, hG222⟩
                              · rw [if_neg hz208] at h
                                by_cases hz225 : ((xs x3.toNatClampNeg) &&& 31) = 13
                                · rw [if_pos hz225] at h
                                  refine ev_a (fun he => ev_tab (t := 561) rfl (by rw [hz225]; decide) he) ?_
                                  refine ev_a (fun he => ev_aload rfl rfl he) ?_
                                  refine ev_a (fun he => ev_aloadF rfl rfl he) ?_
                                  refine ev_a (fun he => ev_iload rfl rfl he) ?_
                                  refine ev_a (fun he => ev_push rfl he) ?_
                                  refine ev_a (fun he => ev_bin (z := x3 + 1) rfl rfl he) ?_
                                  obtain ⟨hc226, h⟩ := cO_inv h
                                  refine ev_a (fun he => ev_sld rfl hc226 he) ?_
                                  refine ev_a (fun he => ev_aloadF rfl rfl he) ?_
                                  refine ev_a (fun he => ev_iload rfl rfl he) ?_
                                  refine ev_a (fun he => ev_push rfl he) ?_
                                  refine ev_a (fun he => ev_bin (z := x3 + 2) rfl rfl he) ?_
                                  obtain ⟨hc227, h⟩ := cO_inv h
                                  refine ev_a (fun he => ev_sld rfl hc227 he) ?_
                                  obtain ⟨y228, σ229, h230, h⟩ := oB_inv h
                                  obtain ⟨c231, hG232⟩ := T_X11_bought xs L N (xs (x3 + 1).toNatClampNeg) (xs (x3 + 2).toNatClampNeg) σ (y228, σ229) h230 hG
                                  refine ev_a (fun he => ev_callV (as := [.int (xs (x3 + 1).toNatClampNeg), .int (xs (x3 + 2).toNatClampNeg)]) rfl (gr_ob (n := 9) hG rfl) rfl rfl rfl (Nat.le_of_ble_eq_true rfl) (Nat.le_of_ble_eq_true rfl) c231 he) ?_
                                  refine ev_a (fun he => ev_aload rfl rfl he) ?_
                                  refine ev_a (fun he => ev_aloadF rfl rfl he) ?_
                                  refine ev_a (fun he => ev_iload rfl rfl he) ?_
                                  refine ev_a (fun he => ev_push rfl he) ?_
                                  refine ev_a (fun he => ev_bin (z := x3 + 1) rfl rfl he) ?_
                                  obtain ⟨hc233, h⟩ := cO_inv h
                                  refine ev_a (fun he => ev_sld rfl hc233 he) ?_
                                  refine ev_a (fun he => ev_aloadF rfl rfl he) ?_
                                  refine ev_a (fun he => ev_iload rfl rfl he) ?_
                                  refine ev_a (fun he => ev_push rfl he) ?_
                                  refine ev_a (fun he => ev_bin (z := x3 + 2) rfl rfl he) ?_
                                  obtain ⟨hc234, h⟩ := cO_inv h
                                  refine ev_a (fun he => ev_sld rfl hc234 he) ?_
                                  obtain ⟨y235, σ236, h237, h⟩ := oB_inv h
                                  obtain ⟨c238, hG239⟩ := T_X12_bought xs L N (xs (x3 + 1).toNatClampNeg) (xs (x3 + 2).toNatClampNeg) σ229 (y235, σ236) h237 hG232
                                  refine ev_a (fun he => ev_callV (as := [.int (xs (x3 + 1).toNatClampNeg), .int (xs (x3 + 2).toNatClampNeg)]) rfl (gr_ob (n := 80) hG232 rfl) rfl rfl rfl (Nat.le_of_ble_eq_true rfl) (Nat.le_of_ble_eq_true rfl) c238 he) ?_
                                  refine ev_b (c := y228 = y235) (fun ht hf => ev_ceq rfl ht hf) (fun hc240 => ?_) (fun hc240 => ?_)
                                  · rw [if_pos hc240] at h
                                    exact TJ_L_law_765 xs L N (H_L_law_18 xs L N n) hk18 x3 σ236 q h hG239
                                  · rw [if_neg hc240] at h
                                    refine ev_a (fun he => ev_push rfl he) ?_
                                    obtain ⟨hc241, h⟩ := cO_inv h
                                    cases h
                                    exact ⟨ev_retZ rfl hc241, hG239⟩
                                · rw [if_neg hz225] at h
                                  by_cases hz242 : ((xs x3.toNatClampNeg) &&& 31) = 14
                                  · rw [if_pos hz242] at h
                                    refine ev_a (fun he => ev_tab (t := 594) rfl (by rw [hz242]; decide) he) ?_
                                    refine ev_a (fun he => ev_aload rfl rfl he) ?_
                                    refine ev_a (fun he => ev_aloadF rfl rfl he) ?_
                                    refine ev_a (fun he => ev_iload rfl rfl he) ?_
                                    refine ev_a (fun he => ev_push rfl he) ?_
                                    refine ev_a (fun he => ev_bin (z := x3 + 1) rfl rfl he) ?_
                                    obtain ⟨hc243, h⟩ := cO_inv h
                                    refine ev_a (fun he => ev_sld rfl hc243 he) ?_
                                    obtain ⟨y244, σ245, h246, h⟩ := oB_inv h
                                    obtain ⟨c247, hG248⟩ := T_X11_last xs L N (xs (x3 + 1).toNatClampNeg) σ (y244, σ245) h246 hG
                                    refine ev_a (fun he => ev_callV (as := [.int (xs (x3 + 1).toNatClampNeg)]) rfl (gr_ob (n := 9) hG rfl) rfl rfl rfl (Nat.le_of_ble_eq_true rfl) (Nat.le_of_ble_eq_true rfl) c247 he) ?_
                                    refine ev_a (fun he => ev_aload rfl rfl he) ?_
                                    refine ev_a (fun he => ev_aloadF rfl rfl he) ?_
                                    refine ev_a (fun he => ev_iload rfl rfl he) ?_
                                    refine ev_a (fun he => ev_push rfl he) ?_
                                    refine ev_a (fun he => ev_bin (z := x3 + 1) rfl rfl he) ?_
                                    obtain ⟨hc249, h⟩ := cO_inv h
                                    refine ev_a (fun he => ev_sld rfl hc249 he) ?_
                                    obtain ⟨y250, σ251, h252, h⟩ := oB_inv h
                                    obtain ⟨c253, hG254⟩ := T_X12_last xs L N (xs (x3 + 1).toNatClampNeg) σ245 (y250, σ251) h252 hG248
                                    refine ev_a (fun he => ev_callV (as := [.int (xs (x3 + 1).toNatClampNeg)]) rfl (gr_ob (n := 80) hG248 rfl) rfl rfl rfl (Nat.le_of_ble_eq_true rfl) (Nat.le_of_ble_eq_true rfl) c253 he) ?_
                                    refine ev_b (c := y244 = y250) (fun ht hf => ev_ceq rfl ht hf) (fun hc255 => ?_) (fun hc255 => ?_)
                                    · rw [if_pos hc255] at h
                                      exact TJ_L_law_765 xs L N (H_L_law_18 xs L N n) hk18 x3 σ251 q h hG254
                                    · rw [if_neg hc255] at h
                                      refine ev_a (fun he => ev_push rfl he) ?_
                                      obtain ⟨hc256, h⟩ := cO_inv h
                                      cases h
                                      exact ⟨ev_retZ rfl hc256, hG254⟩
                                  · rw [if_neg hz242] at h
                                    by_cases hz257 : ((xs x3.toNatClampNeg) &&& 31) = 15
                                    · rw [if_pos hz257] at h
                                      refine ev_a (fun he => ev_tab (t := 617) rfl (by rw [hz257]; decide) he) ?_
                                      refine ev_a (fun he => ev_aload rfl rfl he) ?_
                                      refine ev_a (fun he => ev_aloadF rfl rfl he) ?_
                                      refine ev_a (fun he => ev_iload rfl rfl he) ?_
                                      refine ev_a (fun he => ev_push rfl he) ?_
                                      refine ev_a (fun he => ev_bin (z := x3 + 1) rfl rfl he) ?_
                                      obtain ⟨hc258, h⟩ := cO_inv h
                                      refine ev_a (fun he => ev_sld rfl hc258 he) ?_
                                      obtain ⟨y259, σ260, h261, h⟩ := oB_inv h
                                      obtain ⟨c262, hG263⟩ := T_X11_gets xs L N (xs (x3 + 1).toNatClampNeg) σ (y259, σ260) h261 hG
                                      refine ev_a (fun he => ev_callV (as := [.int (xs (x3 + 1).toNatClampNeg)]) rfl (gr_ob (n := 9) hG rfl) rfl rfl rfl (Nat.le_of_ble_eq_true rfl) (Nat.le_of_ble_eq_true rfl) c262 he) ?_
                                      refine ev_a (fun he => ev_aload rfl rfl he) ?_
                                      refine ev_a (fun he => ev_aloadF rfl rfl he) ?_
                                      refine ev_a (fun he => ev_iload rfl rfl he) ?_
                                      refine ev_a (fun he => ev_push rfl he) ?_
                                      refine ev_a (fun he => ev_bin (z := x3 + 1) rfl rfl he) ?_
                                      obtain ⟨hc264, h⟩ := cO_inv h
                                      refine ev_a (fun he => ev_sld rfl hc264 he) ?_
                                      obtain ⟨y265, σ266, h267, h⟩ := oB_inv h
                                      obtain ⟨c268, hG269⟩ := T_X12_gets xs L N (xs (x3 + 1).toNatClampNeg) σ260 (y265, σ266) h267 hG263
                                      refine ev_a (fun he => ev_callV (as := [.int (xs (x3 + 1).toNatClampNeg)]) rfl (gr_ob (n := 80) hG263 rfl) rfl rfl rfl (Nat.le_of_ble_eq_true rfl) (Nat.le_of_ble_eq_true rfl) c268 he) ?_
                                      refine ev_b (c := y259 = y265) (fun ht hf => ev_ceq rfl ht hf) (fun hc270 => ?_) (fun hc270 => ?_)
                                      · rw [if_pos hc270] at h
                                        exact TJ_L_law_765 xs L N (H_L_law_18 xs L N n) hk18 x3 σ266 q h hG269
                                      · rw [if_neg hc270] at h
                                        refine ev_a (fun he => ev_push rfl he) ?_
                                        obtain ⟨hc271, h⟩ := cO_inv h
                                        cases h
                                        exact ⟨ev_retZ rfl hc271, hG269⟩
                                    · rw [if_neg hz257] at h
                                      by_cases hz272 : ((xs x3.toNatClampNeg) &&& 31) = 16
                                      · rw [if_pos hz272] at h
                                        refine ev_a (fun he => ev_tab (t := 640) rfl (by rw [hz272]; decide) he) ?_
                                        refine ev_a (fun he => ev_aload rfl rfl he) ?_
                                        refine ev_a (fun he => ev_aloadF rfl rfl he) ?_
                                        refine ev_a (fun he => ev_iload rfl rfl he) ?_
                                        refine ev_a (fun he => ev_push rfl he) ?_
                                        refine ev_a (fun he => ev_bin (z := x3 + 1) rfl rfl he) ?_
                                        obtain ⟨hc273, h⟩ := cO_inv h
                                        refine ev_a (fun he => ev_sld rfl hc273 he) ?_
                                        obtain ⟨y274, σ275, h276, h⟩ := oB_inv h
                                        obtain ⟨c277, hG278⟩ := T_X11_sum xs L N (xs (x3 + 1).toNatClampNeg) σ (y274, σ275) h276 hG
                                        refine ev_a (fun he => ev_callV (as := [.int (xs (x3 + 1).toNatClampNeg)]) rfl (gr_ob (n := 9) hG rfl) rfl rfl rfl (Nat.le_of_ble_eq_true rfl) (Nat.le_of_ble_eq_true rfl) c277 he) ?_
                                        refine ev_a (fun he => ev_aload rfl rfl he) ?_
                                        refine ev_a (fun he => ev_aloadF rfl rfl he) ?_
                                        refine ev_a (fun he => ev_iload rfl rfl he) ?_
                                        refine ev_a (fun he => ev_push rfl he) ?_
                                        refine ev_a (fun he => ev_bin (z := x3 + 1) rfl rfl he) ?_
                                        obtain ⟨hc279, h⟩ := cO_inv h
                                        refine ev_a (fun he => ev_sld rfl hc279 he) ?_
                                        obtain ⟨y280, σ281, h282, h⟩ := oB_inv h
                                        obtain ⟨c283, hG284⟩ := T_X12_sum xs L N (xs (x3 + 1).toNatClampNeg) σ275 (y280, σ281) h282 hG278
                                        refine ev_a (fun he => ev_callV (as := [.int (xs (x3 + 1).toNatClampNeg)]) rfl (gr_ob (n := 80) hG278 rfl) rfl rfl rfl (Nat.le_of_ble_eq_true rfl) (Nat.le_of_ble_eq_true rfl) c283 he) ?_
                                        refine ev_b (c := y274 = y280) (fun ht hf => ev_ceq rfl ht hf) (fun hc285 => ?_) (fun hc285 => ?_)
                                        · rw [if_pos hc285] at h
                                          exact TJ_L_law_765 xs L N (H_L_law_18 xs L N n) hk18 x3 σ281 q h hG284
                                        · rw [if_neg hc285] at h
                                          refine ev_a (fun he => ev_push rfl he) ?_
                                          obtain ⟨hc286, h⟩ := cO_inv h
                                          cases h
                                          exact ⟨ev_retZ rfl hc286, hG284⟩
                                      · rw [if_neg hz272] at h
                                        by_cases hz287 : ((xs x3.toNatClampNeg) &&& 31) = 17
                                        · rw [if_pos hz287] at h
                                          refine ev_a (fun he => ev_tab (t := 663) rfl (by rw [hz287]; decide) he) ?_
                                          refine ev_a (fun he => ev_aload rfl rfl he) ?_
                                          refine ev_a (fun he => ev_aloadF rfl rfl he) ?_
                                          refine ev_a (fun he => ev_iload rfl rfl he) ?_
                                          refine ev_a (fun he => ev_push rfl he) ?_
                                          refine ev_a (fun he => ev_bin (z := x3 + 1) rfl rfl he) ?_
                                          obtain ⟨hc288, h⟩ := cO_inv h
                                          refine ev_a (fun he => ev_sld rfl hc288 he) ?_
                                          obtain ⟨y289, σ290, h291, h⟩ := oB_inv h
                                          obtain ⟨c292, hG293⟩ := T_X11_without xs L N (xs (x3 + 1).toNatClampNeg) σ (y289, σ290) h291 hG
                                          refine ev_a (fun he => ev_callV (as := [.int (xs (x3 + 1).toNatClampNeg)]) rfl (gr_ob (n := 9) hG rfl) rfl rfl rfl (Nat.le_of_ble_eq_true rfl) (Nat.le_of_ble_eq_true rfl) c292 he) ?_
                                          refine ev_a (fun he => ev_aload rfl rfl he) ?_
                                          refine ev_a (fun he => ev_aloadF rfl rfl he) ?_
                                          refine ev_a (fun he => ev_iload rfl rfl he) ?_
                                          refine ev_a (fun he => ev_push rfl he) ?_
                                          refine ev_a (fun he => ev_bin (z := x3 + 1) rfl rfl he) ?_
                                          obtain ⟨hc294, h⟩ := cO_inv h
                                          refine ev_a (fun he => ev_sld rfl hc294 he) ?_
                                          obtain ⟨y295, σ296, h297, h⟩ := oB_inv h
                                          obtain ⟨c298, hG299⟩ := T_X12_without xs L N (xs (x3 + 1).toNatClampNeg) σ290 (y295, σ296) h297 hG293
                                          refine ev_a (fun he => ev_callV (as := [.int (xs (x3 + 1).toNatClampNeg)]) rfl (gr_ob (n := 80) hG293 rfl) rfl rfl rfl (Nat.le_of_ble_eq_true rfl) (Nat.le_of_ble_eq_true rfl) c298 he) ?_
                                          refine ev_b (c := y289 = y295) (fun ht hf => ev_ceq rfl ht hf) (fun hc300 => ?_) (fun hc300 => ?_)
                                          · rw [if_pos hc300] at h
                                            exact TJ_L_law_765 xs L N (H_L_law_18 xs L N n) hk18 x3 σ296 q h hG299
                                          · rw [if_neg hc300] at h
                                            refine ev_a (fun he => ev_push rfl he) ?_
                                            obtain ⟨hc301, h⟩ := cO_inv h
                                            cases h
                                            exact ⟨ev_retZ rfl hc301, hG299⟩
                                        · rw [if_neg hz287] at h
                                          by_cases hz302 : ((xs x3.toNatClampNeg) &&& 31) = 18
                                          · rw [if_pos hz302] at h
                                            refine ev_a (fun he => ev_tab (t := 686) rfl (by rw [hz302]; decide) he) ?_
                                            refine ev_a (fun he => ev_aload rfl rfl he) ?_
                                            refine ev_a (fun he => ev_aloadF rfl rfl he) ?_
                                            refine ev_a (fun he => ev_iload rfl rfl he) ?_
                                            refine ev_a (fun he => ev_push rfl he) ?_
                                            refine ev_a (fun he => ev_bin (z := x3 + 1) rfl rfl he) ?_
                                            obtain ⟨hc303, h⟩ := cO_inv h
                                            refine ev_a (fun he => ev_sld rfl hc303 he) ?_
                                            refine ev_a (fun he => ev_aloadF rfl rfl he) ?_
                                            refine ev_a (fun he => ev_iload rfl rfl he) ?_
                                            refine ev_a (fun he => ev_push rfl he) ?_
                                            refine ev_a (fun he => ev_bin (z := x3 + 2) rfl rfl he) ?_
                                            obtain ⟨hc304, h⟩ := cO_inv h
                                            refine ev_a (fun he => ev_sld rfl hc304 he) ?_
                                            obtain ⟨y305, σ306, h307, h⟩ := oB_inv h
                                            obtain ⟨c308, hG309⟩ := T_X11_load xs L N (xs (x3 + 1).toNatClampNeg) (xs (x3 + 2).toNatClampNeg) σ (y305, σ306) h307 hG
                                            refine ev_a (fun he => ev_callV (as := [.int (xs (x3 + 1).toNatClampNeg), .int (xs (x3 + 2).toNatClampNeg)]) rfl (gr_ob (n := 9) hG rfl) rfl rfl rfl (Nat.le_of_ble_eq_true rfl) (Nat.le_of_ble_eq_true rfl) c308 he) ?_
                                            refine ev_a (fun he => ev_aload rfl rfl he) ?_
                                            refine ev_a (fun he => ev_aloadF rfl rfl he) ?_
                                            refine ev_a (fun he => ev_iload rfl rfl he) ?_
                                            refine ev_a (fun he => ev_push rfl he) ?_
                                            refine ev_a (fun he => ev_bin (z := x3 + 1) rfl rfl he) ?_
                                            obtain ⟨hc310, h⟩ := cO_inv h
                                            refine ev_a (fun he => ev_sld rfl hc310 he) ?_
                                            refine ev_a (fun he => ev_aloadF rfl rfl he) ?_
                                            refine ev_a (fun he => ev_iload rfl rfl he) ?_
                                            refine ev_a (fun he => ev_push rfl he) ?_
                                            refine ev_a (fun he => ev_bin (z := x3 + 2) rfl rfl he) ?_
                                            obtain ⟨hc311, h⟩ := cO_inv h
                                            refine ev_a (fun he => ev_sld rfl hc311 he) ?_
                                            obtain ⟨y312, σ313, h314, h⟩ := oB_inv h
                                            obtain ⟨c315, hG316⟩ := T_X12_load xs L N (xs (x3 + 1).toNatClampNeg) (xs (x3 + 2).toNatClampNeg) σ306 (y312, σ313) h314 hG309
                                            refine ev_a (fun he => ev_callV (as := [.int (xs (x3 + 1).toNatClampNeg), .int (xs (x3 + 2).toNatClampNeg)]) rfl (gr_ob (n := 80) hG309 rfl) rfl rfl rfl (Nat.le_of_ble_eq_true rfl) (Nat.le_of_ble_eq_true rfl) c315 he) ?_
                                            refine ev_b (c := y305 = y312) (fun ht hf => ev_ceq rfl ht hf) (fun hc317 => ?_) (fun hc317 => ?_)
                                            · rw [if_pos hc317] at h
                                              exact TJ_L_law_765 xs L N (H_L_law_18 xs L N n) hk18 x3 σ313 q h hG316
                                            · rw [if_neg hc317] at h
                                              refine ev_a (fun he => ev_push rfl he) ?_
                                              obtain ⟨hc318, h⟩ := cO_inv h
                                              cases h
                                              exact ⟨ev_retZ rfl hc318, hG316⟩
                                          · rw [if_neg hz302] at h
                                            by_cases hz319 : ((xs x3.toNatClampNeg) &&& 31) = 19
                                            · rw [if_pos hz319] at h
                                              refine ev_a (fun he => ev_tab (t := 719) rfl (by rw [hz319]; decide) he) ?_
                                              refine ev_a (fun he => ev_aload rfl rfl he) ?_
                                              refine ev_a (fun he => ev_aloadF rfl rfl he) ?_
                                              refine ev_a (fun he => ev_iload rfl rfl he) ?_
                                              refine ev_a (fun he => ev_push rfl he) ?_
                                              refine ev_a (fun he => ev_bin (z := x3 + 1) rfl rfl he) ?_
                                              obtain ⟨hc320, h⟩ := cO_inv h
                                              refine ev_a (fun he => ev_sld rfl hc320 he) ?_
                                              obtain ⟨y321, σ322, h323, h⟩ := oB_inv h
                                              obtain ⟨c324, hG325⟩ := T_X11_stays xs L N (xs (x3 + 1).toNatClampNeg) σ (y321, σ322) h323 hG
                                              refine ev_a (fun he => ev_callV (as := [.int (xs (x3 + 1).toNatClampNeg)]) rfl (gr_ob (n := 9) hG rfl) rfl rfl rfl (Nat.le_of_ble_eq_true rfl) (Nat.le_of_ble_eq_true rfl) c324 he) ?_
                                              refine ev_a (fun he => ev_aload rfl rfl he) ?_
                                              refine ev_a (fun he => ev_aloadF rfl rfl he) ?_
                                              refine ev_a (fun he => ev_iload rfl rfl he) ?_
                                              refine ev_a (fun he => ev_push rfl he) ?_
                                              refine ev_a (fun he => ev_bin (z := x3 + 1) rfl rfl he) ?_
                                              obtain ⟨hc326, h⟩ := cO_inv h
                                              refine ev_a (fun he => ev_sld rfl hc326 he) ?_
                                              obtain ⟨y327, σ328, h329, h⟩ := oB_inv h
                                              obtain ⟨c330, hG331⟩ := T_X12_stays xs L N (xs (x3 + 1).toNatClampNeg) σ322 (y327, σ328) h329 hG325
                                              refine ev_a (fun he => ev_callV (as := [.int (xs (x3 + 1).toNatClampNeg)]) rfl (gr_ob (n := 80) hG325 rfl) rfl rfl rfl (Nat.le_of_ble_eq_true rfl) (Nat.le_of_ble_eq_true rfl) c330 he) ?_
                                              refine ev_b (c := y321 = y327) (fun ht hf => ev_ceq rfl ht hf) (fun hc332 => ?_) (fun hc332 => ?_)
                                              · rw [if_pos hc332] at h
                                                exact TJ_L_law_765 xs L N (H_L_law_18 xs L N n) hk18 x3 σ328 q h hG331
                                              · rw [if_neg hc332] at h
                                                refine ev_a (fun he => ev_push rfl he) ?_
                                                obtain ⟨hc333, h⟩ := cO_inv h
                                                cases h
                                                exact ⟨ev_retZ rfl hc333, hG331⟩
                                            · rw [if_neg hz319] at h
                                              by_cases hz334 : ((xs x3.toNatClampNeg) &&& 31) = 20
                                              · rw [if_pos hz334] at h
                                                refine ev_a (fun he => ev_tab (t := 742) rfl (by rw [hz334]; decide) he) ?_
                                                refine ev_a (fun he => ev_aload rfl rfl he) ?_
                                                refine ev_a (fun he => ev_aloadF rfl rfl he) ?_
                                                refine ev_a (fun he => ev_iload rfl rfl he) ?_
                                                refine ev_a (fun he => ev_push rfl he) ?_
                                                refine ev_a (fun he => ev_bin (z := x3 + 1) rfl rfl he) ?_
                                                obtain ⟨hc335, h⟩ := cO_inv h
                                                refine ev_a (fun he => ev_sld rfl hc335 he) ?_
                                                obtain ⟨y336, σ337, h338, h⟩ := oB_inv h
                                                obtain ⟨c339, hG340⟩ := T_X11_count xs L N (xs (x3 + 1).toNatClampNeg) σ (y336, σ337) h338 hG
                                                refine ev_a (fun he => ev_callV (as := [.int (xs (x3 + 1).toNatClampNeg)]) rfl (gr_ob (n := 9) hG rfl) rfl rfl rfl (Nat.le_of_ble_eq_true rfl) (Nat.le_of_ble_eq_true rfl) c339 he) ?_
                                                refine ev_a (fun he => ev_aload rfl rfl he) ?_
                                                refine ev_a (fun he => ev_aloadF rfl rfl he) ?_
                                                refine ev_a (fun he => ev_iload rfl rfl he) ?_
                                                refine ev_a (fun he => ev_push rfl he) ?_
                                                refine ev_a (fun he => ev_bin (z := x3 + 1) rfl rfl he) ?_
                                                obtain ⟨hc341, h⟩ := cO_inv h
                                                refine ev_a (fun he => ev_sld rfl hc341 he) ?_
                                                obtain ⟨y342, σ343, h344, h⟩ := oB_inv h
                                                obtain ⟨c345, hG346⟩ := T_X12_count xs L N (xs (x3 + 1).toNatClampNeg) σ337 (y342, σ343) h344 hG340
                                                refine ev_a (fun he => ev_callV (as := [.int (xs (x3 + 1).toNatClampNeg)]) rfl (gr_ob (n := 80) hG340 rfl) rfl rfl rfl (Nat.le_of_ble_eq_true rfl) (Nat.le_of_ble_eq_true rfl) c345 he) ?_
                                                refine ev_b (c := y336 = y342) (fun ht hf => ev_ceq rfl ht hf) (fun hc347 => ?_) (fun hc347 => ?_)
                                                · rw [if_pos hc347] at h
                                                  exact TJ_L_law_765 xs L N (H_L_law_18 xs L N n) hk18 x3 σ343 q h hG346
                                                · rw [if_neg hc347] at h
                                                  refine ev_a (fun he => ev_push rfl he) ?_
                                                  obtain ⟨hc348, h⟩ := cO_inv h
                                                  cases h
                                                  exact ⟨ev_retZ rfl hc348, hG346⟩
                                              · rw [if_neg hz334] at h
                                                refine ev_a (fun he => ev_tab (t := 765) rfl (aSwt_d [0, 1, 2, 3, 4, 5, 6, 7, 8, 9, 10, 11, 12, 13, 14, 15, 16, 17, 18, 19, 20] rfl (by decide) (List.forall_mem_cons.mpr ⟨hz4, (List.forall_mem_cons.mpr ⟨hz27, (List.forall_mem_cons.mpr ⟨hz42, (List.forall_mem_cons.mpr ⟨hz57, (List.forall_mem_cons.mpr ⟨hz70, (List.forall_mem_cons.mpr ⟨hz93, (List.forall_mem_cons.mpr ⟨hz110, (List.forall_mem_cons.mpr ⟨hz129, (List.forall_mem_cons.mpr ⟨hz148, (List.forall_mem_cons.mpr ⟨hz161, (List.forall_mem_cons.mpr ⟨hz174, (List.forall_mem_cons.mpr ⟨hz191, (List.forall_mem_cons.mpr ⟨hz208, (List.forall_mem_cons.mpr ⟨hz225, (List.forall_mem_cons.mpr ⟨hz242, (List.forall_mem_cons.mpr ⟨hz257, (List.forall_mem_cons.mpr ⟨hz272, (List.forall_mem_cons.mpr ⟨hz287, (List.forall_mem_cons.mpr ⟨hz302, (List.forall_mem_cons.mpr ⟨hz319, (List.forall_mem_cons.mpr ⟨hz334, (fun _ hm => absurd hm List.not_mem_nil)⟩)⟩)⟩)⟩)⟩)⟩)⟩)⟩)⟩)⟩)⟩)⟩)⟩)⟩)⟩)⟩)⟩)⟩)⟩)⟩)⟩)) he) ?_
                                                exact TJ_L_law_765 xs L N (H_L_law_18 xs L N n) hk18 x3 σ q h hG

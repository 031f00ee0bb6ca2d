def aSndL (G : aGl) (M : aMI) : Nat → List aStp → Prop
  | _, [] => True
  | pc, o :: r => aSnd G M pc o ∧ aSndL G M (pc + 1) r
theorem aSndL_app {G : aGl} {M : aMI} : ∀ (a b : List aStp) (pc n : Nat), a.length = n → aSndL G M pc a → aSndL G M (pc + n) b → aSndL G M pc (a ++ b)
  | [], b, pc, n, hn, _, h2 => by
    cases hn
    exact h2
  | o :: r, b, pc, n, hn, h1, h2 => by
    cases hn
    exact ⟨h1.1, aSndL_app r b (pc + 1) r.length rfl h1.2 (by rw [show pc + 1 + r.length = pc + (r.length + 1) by omega]; exact h2)⟩
theorem aSndL_at {G : aGl} {M : aMI} : ∀ (a : List aStp) (pc i : Nat), aSndL G M pc a → aSnd G M (pc + i) (a.getD i oNo)
  | [], pc, i, _ => sd_no
  | o :: r, pc, 0, h => h.1
  | o :: r, pc, i + 1, h => by
    have := aSndL_at r (pc + 1) i h.2
    rw [show pc + (i + 1) = pc + 1 + i by omega]
    exact this
theorem dfX0 : ∀ j, j < 4 → defaultValue (tyX0 j) = vp_V ((aFl 0).map (fun r => if r = true then Value.null else .int 0)) j := by
  intro j hj
  match j, hj with
  | 0, _ => rfl
  | 1, _ => rfl
  | 2, _ => rfl
  | 3, _ => rfl
  | j + 4, hj => omega
theorem dfX1 : ∀ j, j < 5 → defaultValue (tyX1 j) = vp_V ((aFl 1).map (fun r => if r = true then Value.null else .int 0)) j := by
  intro j hj
  match j, hj with
  | 0, _ => rfl
  | 1, _ => rfl
  | 2, _ => rfl
  | 3, _ => rfl
  | 4, _ => rfl
  | j + 5, hj => omega
theorem dfX2 : ∀ j, j < 7 → defaultValue (tyX2 j) = vp_V ((aFl 2).map (fun r => if r = true then Value.null else .int 0)) j := by
  intro j hj
  match j, hj with
  | 0, _ => rfl
  | 1, _ => rfl
  | 2, _ => rfl
  | 3, _ => rfl
  | 4, _ => rfl
  | 5, _ => rfl
  | 6, _ => rfl
  | j + 7, hj => omega
theorem dfX3 : ∀ j, j < 4 → defaultValue (tyX3 j) = vp_V ((aFl 3).map (fun r => if r = true then Value.null else .int 0)) j := by
  intro j hj
  match j, hj with
  | 0, _ => rfl
  | 1, _ => rfl
  | 2, _ => rfl
  | 3, _ => rfl
  | j + 4, hj => omega
theorem dfX4 : ∀ j, j < 6 → defaultValue (tyX4 j) = vp_V ((aFl 4).map (fun r => if r = true then Value.null else .int 0)) j := by
  intro j hj
  match j, hj with
  | 0, _ => rfl
  | 1, _ => rfl
  | 2, _ => rfl
  | 3, _ => rfl
  | 4, _ => rfl
  | 5, _ => rfl
  | j + 6, hj => omega
theorem dfX5 : ∀ j, j < 5 → defaultValue (tyX5 j) = vp_V ((aFl 5).map (fun r => if r = true then Value.null else .int 0)) j := by
  intro j hj
  match j, hj with
  | 0, _ => rfl
  | 1, _ => rfl
  | 2, _ => rfl
  | 3, _ => rfl
  | 4, _ => rfl
  | j + 5, hj => omega
theorem dfX6 : ∀ j, j < 8 → defaultValue (tyX6 j) = vp_V ((aFl 6).map (fun r => if r = true then Value.null else .int 0)) j := by
  intro j hj
  match j, hj with
  | 0, _ => rfl
  | 1, _ => rfl
  | 2, _ => rfl
  | 3, _ => rfl
  | 4, _ => rfl
  | 5, _ => rfl
  | 6, _ => rfl
  | 7, _ => rfl
  | j + 8, hj => omega
theorem dfX7 : ∀ j, j < 5 → defaultValue (tyX7 j) = vp_V ((aFl 7).map (fun r => if r = true then Value.null else .int 0)) j := by
  intro j hj
  match j, hj with
  | 0, _ => rfl
  | 1, _ => rfl
  | 2, _ => rfl
  | 3, _ => rfl
  | 4, _ => rfl
  | j + 5, hj => omega
theorem dfX8 : ∀ j, j < 12 → defaultValue (tyX8 j) = vp_V ((aFl 8).map (fun r => if r = true then Value.null else .int 0)) j := by
  intro j hj
  match j, hj with
  | 0, _ => rfl
  | 1, _ => rfl
  | 2, _ => rfl
  | 3, _ => rfl
  | 4, _ => rfl
  | 5, _ => rfl
  | 6, _ => rfl
  | 7, _ => rfl
  | 8, _ => rfl
  | 9, _ => rfl
  | 10, _ => rfl
  | 11, _ => rfl
  | j + 12, hj => omega
theorem dfX9 : ∀ j, j < 9 → defaultValue (tyX9 j) = vp_V ((aFl 9).map (fun r => if r = true then Value.null else .int 0)) j := by
  intro j hj
  match j, hj with
  | 0, _ => rfl
  | 1, _ => rfl
  | 2, _ => rfl
  | 3, _ => rfl
  | 4, _ => rfl
  | 5, _ => rfl
  | 6, _ => rfl
  | 7, _ => rfl
  | 8, _ => rfl
  | j + 9, hj => omega
theorem dfX10 : ∀ j, j < 8 → defaultValue (tyX10 j) = vp_V ((aFl 10).map (fun r => if r = true then Value.null else .int 0)) j := by
  intro j hj
  match j, hj with
  | 0, _ => rfl
  | 1, _ => rfl
  | 2, _ => rfl
  | 3, _ => rfl
  | 4, _ => rfl
  | 5, _ => rfl
  | 6, _ => rfl
  | 7, _ => rfl
  | j + 8, hj => omega
theorem dfX11 : ∀ j, j < 9 → defaultValue (tyX11 j) = vp_V ((aFl 11).map (fun r => if r = true then Value.null else .int 0)) j := by
  intro j hj
  match j, hj with
  | 0, _ => rfl
  | 1, _ => rfl
  | 2, _ => rfl
  | 3, _ => rfl
  | 4, _ => rfl
  | 5, _ => rfl
  | 6, _ => rfl
  | 7, _ => rfl
  | 8, _ => rfl
  | j + 9, hj => omega
theorem dfX12 : ∀ j, j < 80 → defaultValue (tyX12 j) = vp_V ((aFl 12).map (fun r => if r = true then Value.null else .int 0)) j := by
  intro j hj
  match j, hj with
  | 0, _ => rfl
  | 1, _ => rfl
  | 2, _ => rfl
  | 3, _ => rfl
  | 4, _ => rfl
  | 5, _ => rfl
  | 6, _ => rfl
  | 7, _ => rfl
  | 8, _ => rfl
  | 9, _ => rfl
  | 10, _ => rfl
  | 11, _ => rfl
  | 12, _ => rfl
  | 13, _ => rfl
  | 14, _ => rfl
  | 15, _ => rfl
  | 16, _ => rfl
  | 17, _ => rfl
  | 18, _ => rfl
  | 19, _ => rfl
  | 20, _ => rfl
  | 21, _ => rfl
  | 22, _ => rfl
  | 23, _ => rfl
  | 24, _ => rfl
  | 25, _ => rfl
  | 26, _ => rfl
  | 27, _ => rfl
  | 28, _ => rfl
  | 29, _ => rfl
  | 30, _ => rfl
  | 31, _ => rfl
  | 32, _ => rfl
  | 33, _ => rfl
  | 34, _ => rfl
  | 35, _ => rfl
  | 36, _ => rfl
  | 37, _ => rfl
  | 38, _ => rfl
  | 39, _ => rfl
  | 40, _ => rfl
  | 41, _ => rfl
  | 42, _ => rfl
  | 43, _ => rfl
  | 44, _ => rfl
  | 45, _ => rfl
  | 46, _ => rfl
  | 47, _ => rfl
  | 48, _ => rfl
  | 49, _ => rfl
  | 50, _ => rfl
  | 51, _ => rfl
  | 52, _ => rfl
  | 53, _ => rfl
  | 54, _ => rfl
  | 55, _ => rfl
  | 56, _ => rfl
  | 57, _ => rfl
  | 58, _ => rfl
  | 59, _ => rfl
  | 60, _ => rfl
  | 61, _ => rfl
  | 62, _ => rfl
  | 63, _ => rfl
  | 64, _ => rfl
  | 65, _ => rfl
  | 66, _ => rfl
  | 67, _ => rfl
  | 68, _ => rfl
  | 69, _ => rfl
  | 70, _ => rfl
  | 71, _ => rfl
  | 72, _ => rfl
  | 73, _ => rfl
  | 74, _ => rfl
  | 75, _ => rfl
  | 76, _ => rfl
  | 77, _ => rfl
  | 78, _ => rfl
  | 79, _ => rfl
  | j + 80, hj => omega
theorem cmX0_init : mX0_init.1.cls ≠ "java/lang/invoke/MethodHandle" ∧ mX0_init.1.cls ≠ "java/lang/invoke/VarHandle" ∧ (parseMethodDescriptor mX0_init.1.desc).map (fun d => d.parameters.length) = some 0 := by decide +kernel
theorem cmX1_init : mX1_init.1.cls ≠ "java/lang/invoke/MethodHandle" ∧ mX1_init.1.cls ≠ "java/lang/invoke/VarHandle" ∧ (parseMethodDescriptor mX1_init.1.desc).map (fun d => d.parameters.length) = some 0 := by decide +kernel
theorem cmX1_isEmpty : mX1_isEmpty.1.cls ≠ "java/lang/invoke/MethodHandle" ∧ mX1_isEmpty.1.cls ≠ "java/lang/invoke/VarHandle" ∧ (parseMethodDescriptor mX1_isEmpty.1.desc).map (fun d => d.parameters.length) = some 0 := by decide +kernel
theorem cmX1_quietSeconds : mX1_quietSeconds.1.cls ≠ "java/lang/invoke/MethodHandle" ∧ mX1_quietSeconds.1.cls ≠ "java/lang/invoke/VarHandle" ∧ (parseMethodDescriptor mX1_quietSeconds.1.desc).map (fun d => d.parameters.length) = some 1 := by decide +kernel
theorem cmX2_init : mX2_init.1.cls ≠ "java/lang/invoke/MethodHandle" ∧ mX2_init.1.cls ≠ "java/lang/invoke/VarHandle" ∧ (parseMethodDescriptor mX2_init.1.desc).map (fun d => d.parameters.length) = some 0 := by decide +kernel
theorem cmX2_hasLot : mX2_hasLot.1.cls ≠ "java/lang/invoke/MethodHandle" ∧ mX2_hasLot.1.cls ≠ "java/lang/invoke/VarHandle" ∧ (parseMethodDescriptor mX2_hasLot.1.desc).map (fun d => d.parameters.length) = some 1 := by decide +kernel
theorem cmX2_hasBuyer : mX2_hasBuyer.1.cls ≠ "java/lang/invoke/MethodHandle" ∧ mX2_hasBuyer.1.cls ≠ "java/lang/invoke/VarHandle" ∧ (parseMethodDescriptor mX2_hasBuyer.1.desc).map (fun d => d.parameters.length) = some 1 := by decide +kernel
theorem cmX2_land : mX2_land.1.cls ≠ "java/lang/invoke/MethodHandle" ∧ mX2_land.1.cls ≠ "java/lang/invoke/VarHandle" ∧ (parseMethodDescriptor mX2_land.1.desc).map (fun d => d.parameters.length) = some 5 := by decide +kernel
theorem cmX2_admit : mX2_admit.1.cls ≠ "java/lang/invoke/MethodHandle" ∧ mX2_admit.1.cls ≠ "java/lang/invoke/VarHandle" ∧ (parseMethodDescriptor mX2_admit.1.desc).map (fun d => d.parameters.length) = some 2 := by decide +kernel
theorem cmX2_exchangeText : mX2_exchangeText.1.cls ≠ "java/lang/invoke/MethodHandle" ∧ mX2_exchangeText.1.cls ≠ "java/lang/invoke/VarHandle" ∧ (parseMethodDescriptor mX2_exchangeText.1.desc).map (fun d => d.parameters.length) = some 2 := by decide +kernel
theorem cmX2_startOf : mX2_startOf.1.cls ≠ "java/lang/invoke/MethodHandle" ∧ mX2_startOf.1.cls ≠ "java/lang/invoke/VarHandle" ∧ (parseMethodDescriptor mX2_startOf.1.desc).map (fun d => d.parameters.length) = some 1 := by decide +kernel
theorem cmX2_leastOf : mX2_leastOf.1.cls ≠ "java/lang/invoke/MethodHandle" ∧ mX2_leastOf.1.cls ≠ "java/lang/invoke/VarHandle" ∧ (parseMethodDescriptor mX2_leastOf.1.desc).map (fun d => d.parameters.length) = some 2 := by decide +kernel
theorem cmX2_heldTo : mX2_heldTo.1.cls ≠ "java/lang/invoke/MethodHandle" ∧ mX2_heldTo.1.cls ≠ "java/lang/invoke/VarHandle" ∧ (parseMethodDescriptor mX2_heldTo.1.desc).map (fun d => d.parameters.length) = some 2 := by decide +kernel
theorem cmX2_limitOf : mX2_limitOf.1.cls ≠ "java/lang/invoke/MethodHandle" ∧ mX2_limitOf.1.cls ≠ "java/lang/invoke/VarHandle" ∧ (parseMethodDescriptor mX2_limitOf.1.desc).map (fun d => d.parameters.length) = some 3 := by decide +kernel
theorem cmX2_bidRuleOf : mX2_bidRuleOf.1.cls ≠ "java/lang/invoke/MethodHandle" ∧ mX2_bidRuleOf.1.cls ≠ "java/lang/invoke/VarHandle" ∧ (parseMethodDescriptor mX2_bidRuleOf.1.desc).map (fun d => d.parameters.length) = some 3 := by decide +kernel
theorem cmX2_stillWanted : mX2_stillWanted.1.cls ≠ "java/lang/invoke/MethodHandle" ∧ mX2_stillWanted.1.cls ≠ "java/lang/invoke/VarHandle" ∧ (parseMethodDescriptor mX2_stillWanted.1.desc).map (fun d => d.parameters.length) = some 3 := by decide +kernel
theorem cmX2_setLotVariables : mX2_setLotVariables.1.cls ≠ "java/lang/invoke/MethodHandle" ∧ mX2_setLotVariables.1.cls ≠ "java/lang/invoke/VarHandle" ∧ (parseMethodDescriptor mX2_setLotVariables.1.desc).map (fun d => d.parameters.length) = some 1 := by decide +kernel
theorem cmX2_setBuyerVariables : mX2_setBuyerVariables.1.cls ≠ "java/lang/invoke/MethodHandle" ∧ mX2_setBuyerVariables.1.cls ≠ "java/lang/invoke/VarHandle" ∧ (parseMethodDescriptor mX2_setBuyerVariables.1.desc).map (fun d => d.parameters.length) = some 3 := by decide +kernel
theorem cmX3_init : mX3_init.1.cls ≠ "java/lang/invoke/MethodHandle" ∧ mX3_init.1.cls ≠ "java/lang/invoke/VarHandle" ∧ (parseMethodDescriptor mX3_init.1.desc).map (fun d => d.parameters.length) = some 0 := by decide +kernel
theorem cmX3_fill : mX3_fill.1.cls ≠ "java/lang/invoke/MethodHandle" ∧ mX3_fill.1.cls ≠ "java/lang/invoke/VarHandle" ∧ (parseMethodDescriptor mX3_fill.1.desc).map (fun d => d.parameters.length) = some 4 := by decide +kernel
theorem cmX3_gather : mX3_gather.1.cls ≠ "java/lang/invoke/MethodHandle" ∧ mX3_gather.1.cls ≠ "java/lang/invoke/VarHandle" ∧ (parseMethodDescriptor mX3_gather.1.desc).map (fun d => d.parameters.length) = some 3 := by decide +kernel
theorem cmX3_countFewest : mX3_countFewest.1.cls ≠ "java/lang/invoke/MethodHandle" ∧ mX3_countFewest.1.cls ≠ "java/lang/invoke/VarHandle" ∧ (parseMethodDescriptor mX3_countFewest.1.desc).map (fun d => d.parameters.length) = some 1 := by decide +kernel
theorem cmX3_mostBoxes : mX3_mostBoxes.1.cls ≠ "java/lang/invoke/MethodHandle" ∧ mX3_mostBoxes.1.cls ≠ "java/lang/invoke/VarHandle" ∧ (parseMethodDescriptor mX3_mostBoxes.1.desc).map (fun d => d.parameters.length) = some 1 := by decide +kernel
theorem cmX4_init : mX4_init.1.cls ≠ "java/lang/invoke/MethodHandle" ∧ mX4_init.1.cls ≠ "java/lang/invoke/VarHandle" ∧ (parseMethodDescriptor mX4_init.1.desc).map (fun d => d.parameters.length) = some 0 := by decide +kernel
theorem cmX4_order : mX4_order.1.cls ≠ "java/lang/invoke/MethodHandle" ∧ mX4_order.1.cls ≠ "java/lang/invoke/VarHandle" ∧ (parseMethodDescriptor mX4_order.1.desc).map (fun d => d.parameters.length) = some 3 := by decide +kernel
theorem cmX4_empty : mX4_empty.1.cls ≠ "java/lang/invoke/MethodHandle" ∧ mX4_empty.1.cls ≠ "java/lang/invoke/VarHandle" ∧ (parseMethodDescriptor mX4_empty.1.desc).map (fun d => d.parameters.length) = some 0 := by decide +kernel
theorem cmX4_put : mX4_put.1.cls ≠ "java/lang/invoke/MethodHandle" ∧ mX4_put.1.cls ≠ "java/lang/invoke/VarHandle" ∧ (parseMethodDescriptor mX4_put.1.desc).map (fun d => d.parameters.length) = some 2 := by decide +kernel
theorem cmX4_tell : mX4_tell.1.cls ≠ "java/lang/invoke/MethodHandle" ∧ mX4_tell.1.cls ≠ "java/lang/invoke/VarHandle" ∧ (parseMethodDescriptor mX4_tell.1.desc).map (fun d => d.parameters.length) = some 1 := by decide +kernel
theorem cmX5_init : mX5_init.1.cls ≠ "java/lang/invoke/MethodHandle" ∧ mX5_init.1.cls ≠ "java/lang/invoke/VarHandle" ∧ (parseMethodDescriptor mX5_init.1.desc).map (fun d => d.parameters.length) = some 0 := by decide +kernel
theorem cmX6_init : mX6_init.1.cls ≠ "java/lang/invoke/MethodHandle" ∧ mX6_init.1.cls ≠ "java/lang/invoke/VarHandle" ∧ (parseMethodDescriptor mX6_init.1.desc).map (fun d => d.parameters.length) = some 0 := by decide +kernel
theorem cmX6_isSold : mX6_isSold.1.cls ≠ "java/lang/invoke/MethodHandle" ∧ mX6_isSold.1.cls ≠ "java/lang/invoke/VarHandle" ∧ (parseMethodDescriptor mX6_isSold.1.desc).map (fun d => d.parameters.length) = some 0 := by decide +kernel
theorem cmX6_tell : mX6_tell.1.cls ≠ "java/lang/invoke/MethodHandle" ∧ mX6_tell.1.cls ≠ "java/lang/invoke/VarHandle" ∧ (parseMethodDescriptor mX6_tell.1.desc).map (fun d => d.parameters.length) = some 1 := by decide +kernel
theorem cmX7_init : mX7_init.1.cls ≠ "java/lang/invoke/MethodHandle" ∧ mX7_init.1.cls ≠ "java/lang/invoke/VarHandle" ∧ (parseMethodDescriptor mX7_init.1.desc).map (fun d => d.parameters.length) = some 0 := by decide +kernel
theorem cmX7_open : mX7_open.1.cls ≠ "java/lang/invoke/MethodHandle" ∧ mX7_open.1.cls ≠ "java/lang/invoke/VarHandle" ∧ (parseMethodDescriptor mX7_open.1.desc).map (fun d => d.parameters.length) = some 1 := by decide +kernel
theorem cmX7_pay : mX7_pay.1.cls ≠ "java/lang/invoke/MethodHandle" ∧ mX7_pay.1.cls ≠ "java/lang/invoke/VarHandle" ∧ (parseMethodDescriptor mX7_pay.1.desc).map (fun d => d.parameters.length) = some 3 := by decide +kernel
theorem cmX8_init : mX8_init.1.cls ≠ "java/lang/invoke/MethodHandle" ∧ mX8_init.1.cls ≠ "java/lang/invoke/VarHandle" ∧ (parseMethodDescriptor mX8_init.1.desc).map (fun d => d.parameters.length) = some 0 := by decide +kernel
theorem cmX8_putFourBytes : mX8_putFourBytes.1.cls ≠ "java/lang/invoke/MethodHandle" ∧ mX8_putFourBytes.1.cls ≠ "java/lang/invoke/VarHandle" ∧ (parseMethodDescriptor mX8_putFourBytes.1.desc).map (fun d => d.parameters.length) = some 1 := by decide +kernel
theorem cmX8_parse : mX8_parse.1.cls ≠ "java/lang/invoke/MethodHandle" ∧ mX8_parse.1.cls ≠ "java/lang/invoke/VarHandle" ∧ (parseMethodDescriptor mX8_parse.1.desc).map (fun d => d.parameters.length) = some 0 := by decide +kernel
theorem cmX8_begin : mX8_begin.1.cls ≠ "java/lang/invoke/MethodHandle" ∧ mX8_begin.1.cls ≠ "java/lang/invoke/VarHandle" ∧ (parseMethodDescriptor mX8_begin.1.desc).map (fun d => d.parameters.length) = some 0 := by decide +kernel
theorem cmX8_faultOf : mX8_faultOf.1.cls ≠ "java/lang/invoke/MethodHandle" ∧ mX8_faultOf.1.cls ≠ "java/lang/invoke/VarHandle" ∧ (parseMethodDescriptor mX8_faultOf.1.desc).map (fun d => d.parameters.length) = some 1 := by decide +kernel
theorem cmX8_fits : mX8_fits.1.cls ≠ "java/lang/invoke/MethodHandle" ∧ mX8_fits.1.cls ≠ "java/lang/invoke/VarHandle" ∧ (parseMethodDescriptor mX8_fits.1.desc).map (fun d => d.parameters.length) = some 1 := by decide +kernel
theorem cmX8_hasRoomFor : mX8_hasRoomFor.1.cls ≠ "java/lang/invoke/MethodHandle" ∧ mX8_hasRoomFor.1.cls ≠ "java/lang/invoke/VarHandle" ∧ (parseMethodDescriptor mX8_hasRoomFor.1.desc).map (fun d => d.parameters.length) = some 1 := by decide +kernel
theorem cmX8_take : mX8_take.1.cls ≠ "java/lang/invoke/MethodHandle" ∧ mX8_take.1.cls ≠ "java/lang/invoke/VarHandle" ∧ (parseMethodDescriptor mX8_take.1.desc).map (fun d => d.parameters.length) = some 1 := by decide +kernel
theorem cmX8_takeBehindUnit : mX8_takeBehindUnit.1.cls ≠ "java/lang/invoke/MethodHandle" ∧ mX8_takeBehindUnit.1.cls ≠ "java/lang/invoke/VarHandle" ∧ (parseMethodDescriptor mX8_takeBehindUnit.1.desc).map (fun d => d.parameters.length) = some 1 := by decide +kernel
theorem cmX8_takeOperator : mX8_takeOperator.1.cls ≠ "java/lang/invoke/MethodHandle" ∧ mX8_takeOperator.1.cls ≠ "java/lang/invoke/VarHandle" ∧ (parseMethodDescriptor mX8_takeOperator.1.desc).map (fun d => d.parameters.length) = some 1 := by decide +kernel
theorem cmX8_pend : mX8_pend.1.cls ≠ "java/lang/invoke/MethodHandle" ∧ mX8_pend.1.cls ≠ "java/lang/invoke/VarHandle" ∧ (parseMethodDescriptor mX8_pend.1.desc).map (fun d => d.parameters.length) = some 1 := by decide +kernel
theorem cmX8_settle : mX8_settle.1.cls ≠ "java/lang/invoke/MethodHandle" ∧ mX8_settle.1.cls ≠ "java/lang/invoke/VarHandle" ∧ (parseMethodDescriptor mX8_settle.1.desc).map (fun d => d.parameters.length) = some 1 := by decide +kernel
theorem cmX8_dropOpen : mX8_dropOpen.1.cls ≠ "java/lang/invoke/MethodHandle" ∧ mX8_dropOpen.1.cls ≠ "java/lang/invoke/VarHandle" ∧ (parseMethodDescriptor mX8_dropOpen.1.desc).map (fun d => d.parameters.length) = some 0 := by decide +kernel
theorem cmX8_rank : mX8_rank.1.cls ≠ "java/lang/invoke/MethodHandle" ∧ mX8_rank.1.cls ≠ "java/lang/invoke/VarHandle" ∧ (parseMethodDescriptor mX8_rank.1.desc).map (fun d => d.parameters.length) = some 1 := by decide +kernel
theorem cmX8_nextToken : mX8_nextToken.1.cls ≠ "java/lang/invoke/MethodHandle" ∧ mX8_nextToken.1.cls ≠ "java/lang/invoke/VarHandle" ∧ (parseMethodDescriptor mX8_nextToken.1.desc).map (fun d => d.parameters.length) = some 0 := by decide +kernel
theorem cmX8_wordToken : mX8_wordToken.1.cls ≠ "java/lang/invoke/MethodHandle" ∧ mX8_wordToken.1.cls ≠ "java/lang/invoke/VarHandle" ∧ (parseMethodDescriptor mX8_wordToken.1.desc).map (fun d => d.parameters.length) = some 0 := by decide +kernel
theorem cmX8_isTokenTheWord : mX8_isTokenTheWord.1.cls ≠ "java/lang/invoke/MethodHandle" ∧ mX8_isTokenTheWord.1.cls ≠ "java/lang/invoke/VarHandle" ∧ (parseMethodDescriptor mX8_isTokenTheWord.1.desc).map (fun d => d.parameters.length) = some 1 := by decide +kernel
theorem cmX8_intToken : mX8_intToken.1.cls ≠ "java/lang/invoke/MethodHandle" ∧ mX8_intToken.1.cls ≠ "java/lang/invoke/VarHandle" ∧ (parseMethodDescriptor mX8_intToken.1.desc).map (fun d => d.parameters.length) = some 0 := by decide +kernel
theorem cmX8_signToken : mX8_signToken.1.cls ≠ "java/lang/invoke/MethodHandle" ∧ mX8_signToken.1.cls ≠ "java/lang/invoke/VarHandle" ∧ (parseMethodDescriptor mX8_signToken.1.desc).map (fun d => d.parameters.length) = some 1 := by decide +kernel
theorem cmX8_withEqualSign : mX8_withEqualSign.1.cls ≠ "java/lang/invoke/MethodHandle" ∧ mX8_withEqualSign.1.cls ≠ "java/lang/invoke/VarHandle" ∧ (parseMethodDescriptor mX8_withEqualSign.1.desc).map (fun d => d.parameters.length) = some 2 := by decide +kernel
theorem cmX8_isBlank : mX8_isBlank.1.cls ≠ "java/lang/invoke/MethodHandle" ∧ mX8_isBlank.1.cls ≠ "java/lang/invoke/VarHandle" ∧ (parseMethodDescriptor mX8_isBlank.1.desc).map (fun d => d.parameters.length) = some 1 := by decide +kernel
theorem cmX8_isLetter : mX8_isLetter.1.cls ≠ "java/lang/invoke/MethodHandle" ∧ mX8_isLetter.1.cls ≠ "java/lang/invoke/VarHandle" ∧ (parseMethodDescriptor mX8_isLetter.1.desc).map (fun d => d.parameters.length) = some 1 := by decide +kernel
theorem cmX8_isDigit : mX8_isDigit.1.cls ≠ "java/lang/invoke/MethodHandle" ∧ mX8_isDigit.1.cls ≠ "java/lang/invoke/VarHandle" ∧ (parseMethodDescriptor mX8_isDigit.1.desc).map (fun d => d.parameters.length) = some 1 := by decide +kernel
theorem cmX9_init : mX9_init.1.cls ≠ "java/lang/invoke/MethodHandle" ∧ mX9_init.1.cls ≠ "java/lang/invoke/VarHandle" ∧ (parseMethodDescriptor mX9_init.1.desc).map (fun d => d.parameters.length) = some 1 := by decide +kernel
theorem cmX9_openPurses : mX9_openPurses.1.cls ≠ "java/lang/invoke/MethodHandle" ∧ mX9_openPurses.1.cls ≠ "java/lang/invoke/VarHandle" ∧ (parseMethodDescriptor mX9_openPurses.1.desc).map (fun d => d.parameters.length) = some 0 := by decide +kernel
theorem cmX9_hold : mX9_hold.1.cls ≠ "java/lang/invoke/MethodHandle" ∧ mX9_hold.1.cls ≠ "java/lang/invoke/VarHandle" ∧ (parseMethodDescriptor mX9_hold.1.desc).map (fun d => d.parameters.length) = some 1 := by decide +kernel
theorem cmX9_begin : mX9_begin.1.cls ≠ "java/lang/invoke/MethodHandle" ∧ mX9_begin.1.cls ≠ "java/lang/invoke/VarHandle" ∧ (parseMethodDescriptor mX9_begin.1.desc).map (fun d => d.parameters.length) = some 1 := by decide +kernel
theorem cmX9_fillClocks : mX9_fillClocks.1.cls ≠ "java/lang/invoke/MethodHandle" ∧ mX9_fillClocks.1.cls ≠ "java/lang/invoke/VarHandle" ∧ (parseMethodDescriptor mX9_fillClocks.1.desc).map (fun d => d.parameters.length) = some 0 := by decide +kernel
theorem cmX9_refreshLimits : mX9_refreshLimits.1.cls ≠ "java/lang/invoke/MethodHandle" ∧ mX9_refreshLimits.1.cls ≠ "java/lang/invoke/VarHandle" ∧ (parseMethodDescriptor mX9_refreshLimits.1.desc).map (fun d => d.parameters.length) = some 0 := by decide +kernel
theorem cmX9_passQuietSeconds : mX9_passQuietSeconds.1.cls ≠ "java/lang/invoke/MethodHandle" ∧ mX9_passQuietSeconds.1.cls ≠ "java/lang/invoke/VarHandle" ∧ (parseMethodDescriptor mX9_passQuietSeconds.1.desc).map (fun d => d.parameters.length) = some 0 := by decide +kernel
theorem cmX9_stopClocks : mX9_stopClocks.1.cls ≠ "java/lang/invoke/MethodHandle" ∧ mX9_stopClocks.1.cls ≠ "java/lang/invoke/VarHandle" ∧ (parseMethodDescriptor mX9_stopClocks.1.desc).map (fun d => d.parameters.length) = some 0 := by decide +kernel
theorem cmX9_whoStops : mX9_whoStops.1.cls ≠ "java/lang/invoke/MethodHandle" ∧ mX9_whoStops.1.cls ≠ "java/lang/invoke/VarHandle" ∧ (parseMethodDescriptor mX9_whoStops.1.desc).map (fun d => d.parameters.length) = some 1 := by decide +kernel
theorem cmX9_sell : mX9_sell.1.cls ≠ "java/lang/invoke/MethodHandle" ∧ mX9_sell.1.cls ≠ "java/lang/invoke/VarHandle" ∧ (parseMethodDescriptor mX9_sell.1.desc).map (fun d => d.parameters.length) = some 2 := by decide +kernel
theorem cmX9_lowerClocks : mX9_lowerClocks.1.cls ≠ "java/lang/invoke/MethodHandle" ∧ mX9_lowerClocks.1.cls ≠ "java/lang/invoke/VarHandle" ∧ (parseMethodDescriptor mX9_lowerClocks.1.desc).map (fun d => d.parameters.length) = some 0 := by decide +kernel
theorem cmX9_settle : mX9_settle.1.cls ≠ "java/lang/invoke/MethodHandle" ∧ mX9_settle.1.cls ≠ "java/lang/invoke/VarHandle" ∧ (parseMethodDescriptor mX9_settle.1.desc).map (fun d => d.parameters.length) = some 2 := by decide +kernel
theorem cmX9_noteLasts : mX9_noteLasts.1.cls ≠ "java/lang/invoke/MethodHandle" ∧ mX9_noteLasts.1.cls ≠ "java/lang/invoke/VarHandle" ∧ (parseMethodDescriptor mX9_noteLasts.1.desc).map (fun d => d.parameters.length) = some 0 := by decide +kernel
theorem cmX9_soldLast : mX9_soldLast.1.cls ≠ "java/lang/invoke/MethodHandle" ∧ mX9_soldLast.1.cls ≠ "java/lang/invoke/VarHandle" ∧ (parseMethodDescriptor mX9_soldLast.1.desc).map (fun d => d.parameters.length) = some 1 := by decide +kernel
theorem cmX9_isLater : mX9_isLater.1.cls ≠ "java/lang/invoke/MethodHandle" ∧ mX9_isLater.1.cls ≠ "java/lang/invoke/VarHandle" ∧ (parseMethodDescriptor mX9_isLater.1.desc).map (fun d => d.parameters.length) = some 2 := by decide +kernel
theorem cmX9_takingsOf : mX9_takingsOf.1.cls ≠ "java/lang/invoke/MethodHandle" ∧ mX9_takingsOf.1.cls ≠ "java/lang/invoke/VarHandle" ∧ (parseMethodDescriptor mX9_takingsOf.1.desc).map (fun d => d.parameters.length) = some 1 := by decide +kernel
theorem cmX9_takingsOfAll : mX9_takingsOfAll.1.cls ≠ "java/lang/invoke/MethodHandle" ∧ mX9_takingsOfAll.1.cls ≠ "java/lang/invoke/VarHandle" ∧ (parseMethodDescriptor mX9_takingsOfAll.1.desc).map (fun d => d.parameters.length) = some 0 := by decide +kernel
theorem cmX9_total : mX9_total.1.cls ≠ "java/lang/invoke/MethodHandle" ∧ mX9_total.1.cls ≠ "java/lang/invoke/VarHandle" ∧ (parseMethodDescriptor mX9_total.1.desc).map (fun d => d.parameters.length) = some 1 := by decide +kernel
theorem cmX9_partOfSold : mX9_partOfSold.1.cls ≠ "java/lang/invoke/MethodHandle" ∧ mX9_partOfSold.1.cls ≠ "java/lang/invoke/VarHandle" ∧ (parseMethodDescriptor mX9_partOfSold.1.desc).map (fun d => d.parameters.length) = some 2 := by decide +kernel
theorem cmX9_partOfWithdrawn : mX9_partOfWithdrawn.1.cls ≠ "java/lang/invoke/MethodHandle" ∧ mX9_partOfWithdrawn.1.cls ≠ "java/lang/invoke/VarHandle" ∧ (parseMethodDescriptor mX9_partOfWithdrawn.1.desc).map (fun d => d.parameters.length) = some 2 := by decide +kernel
theorem cmX9_isSoldTo : mX9_isSoldTo.1.cls ≠ "java/lang/invoke/MethodHandle" ∧ mX9_isSoldTo.1.cls ≠ "java/lang/invoke/VarHandle" ∧ (parseMethodDescriptor mX9_isSoldTo.1.desc).map (fun d => d.parameters.length) = some 2 := by decide +kernel
theorem cmX9_boxesLeftFor : mX9_boxesLeftFor.1.cls ≠ "java/lang/invoke/MethodHandle" ∧ mX9_boxesLeftFor.1.cls ≠ "java/lang/invoke/VarHandle" ∧ (parseMethodDescriptor mX9_boxesLeftFor.1.desc).map (fun d => d.parameters.length) = some 1 := by decide +kernel
theorem cmX10_init : mX10_init.1.cls ≠ "java/lang/invoke/MethodHandle" ∧ mX10_init.1.cls ≠ "java/lang/invoke/VarHandle" ∧ (parseMethodDescriptor mX10_init.1.desc).map (fun d => d.parameters.length) = some 0 := by decide +kernel
theorem cmX10_isOperand : mX10_isOperand.1.cls ≠ "java/lang/invoke/MethodHandle" ∧ mX10_isOperand.1.cls ≠ "java/lang/invoke/VarHandle" ∧ (parseMethodDescriptor mX10_isOperand.1.desc).map (fun d => d.parameters.length) = some 1 := by decide +kernel
theorem cmX10_isRelation : mX10_isRelation.1.cls ≠ "java/lang/invoke/MethodHandle" ∧ mX10_isRelation.1.cls ≠ "java/lang/invoke/VarHandle" ∧ (parseMethodDescriptor mX10_isRelation.1.desc).map (fun d => d.parameters.length) = some 1 := by decide +kernel
theorem cmX10_clearRules : mX10_clearRules.1.cls ≠ "java/lang/invoke/MethodHandle" ∧ mX10_clearRules.1.cls ≠ "java/lang/invoke/VarHandle" ∧ (parseMethodDescriptor mX10_clearRules.1.desc).map (fun d => d.parameters.length) = some 0 := by decide +kernel
theorem cmX10_beginRule : mX10_beginRule.1.cls ≠ "java/lang/invoke/MethodHandle" ∧ mX10_beginRule.1.cls ≠ "java/lang/invoke/VarHandle" ∧ (parseMethodDescriptor mX10_beginRule.1.desc).map (fun d => d.parameters.length) = some 1 := by decide +kernel
theorem cmX10_addCode : mX10_addCode.1.cls ≠ "java/lang/invoke/MethodHandle" ∧ mX10_addCode.1.cls ≠ "java/lang/invoke/VarHandle" ∧ (parseMethodDescriptor mX10_addCode.1.desc).map (fun d => d.parameters.length) = some 1 := by decide +kernel
theorem cmX10_endValue : mX10_endValue.1.cls ≠ "java/lang/invoke/MethodHandle" ∧ mX10_endValue.1.cls ≠ "java/lang/invoke/VarHandle" ∧ (parseMethodDescriptor mX10_endValue.1.desc).map (fun d => d.parameters.length) = some 0 := by decide +kernel
theorem cmX10_endRule : mX10_endRule.1.cls ≠ "java/lang/invoke/MethodHandle" ∧ mX10_endRule.1.cls ≠ "java/lang/invoke/VarHandle" ∧ (parseMethodDescriptor mX10_endRule.1.desc).map (fun d => d.parameters.length) = some 0 := by decide +kernel
theorem cmX10_firstThatHolds : mX10_firstThatHolds.1.cls ≠ "java/lang/invoke/MethodHandle" ∧ mX10_firstThatHolds.1.cls ≠ "java/lang/invoke/VarHandle" ∧ (parseMethodDescriptor mX10_firstThatHolds.1.desc).map (fun d => d.parameters.length) = some 2 := by decide +kernel
theorem cmX10_valueOrElse : mX10_valueOrElse.1.cls ≠ "java/lang/invoke/MethodHandle" ∧ mX10_valueOrElse.1.cls ≠ "java/lang/invoke/VarHandle" ∧ (parseMethodDescriptor mX10_valueOrElse.1.desc).map (fun d => d.parameters.length) = some 3 := by decide +kernel
theorem cmX10_compute : mX10_compute.1.cls ≠ "java/lang/invoke/MethodHandle" ∧ mX10_compute.1.cls ≠ "java/lang/invoke/VarHandle" ∧ (parseMethodDescriptor mX10_compute.1.desc).map (fun d => d.parameters.length) = some 3 := by decide +kernel
theorem cmX10_worth : mX10_worth.1.cls ≠ "java/lang/invoke/MethodHandle" ∧ mX10_worth.1.cls ≠ "java/lang/invoke/VarHandle" ∧ (parseMethodDescriptor mX10_worth.1.desc).map (fun d => d.parameters.length) = some 2 := by decide +kernel
theorem cmX10_combine : mX10_combine.1.cls ≠ "java/lang/invoke/MethodHandle" ∧ mX10_combine.1.cls ≠ "java/lang/invoke/VarHandle" ∧ (parseMethodDescriptor mX10_combine.1.desc).map (fun d => d.parameters.length) = some 3 := by decide +kernel
theorem cmX11_init : mX11_init.1.cls ≠ "java/lang/invoke/MethodHandle" ∧ mX11_init.1.cls ≠ "java/lang/invoke/VarHandle" ∧ (parseMethodDescriptor mX11_init.1.desc).map (fun d => d.parameters.length) = some 0 := by decide +kernel
theorem cmX11_feed : mX11_feed.1.cls ≠ "java/lang/invoke/MethodHandle" ∧ mX11_feed.1.cls ≠ "java/lang/invoke/VarHandle" ∧ (parseMethodDescriptor mX11_feed.1.desc).map (fun d => d.parameters.length) = some 5 := by decide +kernel
theorem cmX11_back : mX11_back.1.cls ≠ "java/lang/invoke/MethodHandle" ∧ mX11_back.1.cls ≠ "java/lang/invoke/VarHandle" ∧ (parseMethodDescriptor mX11_back.1.desc).map (fun d => d.parameters.length) = some 1 := by decide +kernel
theorem cmX11_read : mX11_read.1.cls ≠ "java/lang/invoke/MethodHandle" ∧ mX11_read.1.cls ≠ "java/lang/invoke/VarHandle" ∧ (parseMethodDescriptor mX11_read.1.desc).map (fun d => d.parameters.length) = some 1 := by decide +kernel
theorem cmX11_place : mX11_place.1.cls ≠ "java/lang/invoke/MethodHandle" ∧ mX11_place.1.cls ≠ "java/lang/invoke/VarHandle" ∧ (parseMethodDescriptor mX11_place.1.desc).map (fun d => d.parameters.length) = some 0 := by decide +kernel
theorem cmX11_lot : mX11_lot.1.cls ≠ "java/lang/invoke/MethodHandle" ∧ mX11_lot.1.cls ≠ "java/lang/invoke/VarHandle" ∧ (parseMethodDescriptor mX11_lot.1.desc).map (fun d => d.parameters.length) = some 5 := by decide +kernel
theorem cmX11_buyer : mX11_buyer.1.cls ≠ "java/lang/invoke/MethodHandle" ∧ mX11_buyer.1.cls ≠ "java/lang/invoke/VarHandle" ∧ (parseMethodDescriptor mX11_buyer.1.desc).map (fun d => d.parameters.length) = some 2 := by decide +kernel
theorem cmX11_want : mX11_want.1.cls ≠ "java/lang/invoke/MethodHandle" ∧ mX11_want.1.cls ≠ "java/lang/invoke/VarHandle" ∧ (parseMethodDescriptor mX11_want.1.desc).map (fun d => d.parameters.length) = some 3 := by decide +kernel
theorem cmX11_lorry : mX11_lorry.1.cls ≠ "java/lang/invoke/MethodHandle" ∧ mX11_lorry.1.cls ≠ "java/lang/invoke/VarHandle" ∧ (parseMethodDescriptor mX11_lorry.1.desc).map (fun d => d.parameters.length) = some 3 := by decide +kernel
theorem cmX11_sale : mX11_sale.1.cls ≠ "java/lang/invoke/MethodHandle" ∧ mX11_sale.1.cls ≠ "java/lang/invoke/VarHandle" ∧ (parseMethodDescriptor mX11_sale.1.desc).map (fun d => d.parameters.length) = some 0 := by decide +kernel
theorem cmX11_day : mX11_day.1.cls ≠ "java/lang/invoke/MethodHandle" ∧ mX11_day.1.cls ≠ "java/lang/invoke/VarHandle" ∧ (parseMethodDescriptor mX11_day.1.desc).map (fun d => d.parameters.length) = some 0 := by decide +kernel
theorem cmX11_told : mX11_told.1.cls ≠ "java/lang/invoke/MethodHandle" ∧ mX11_told.1.cls ≠ "java/lang/invoke/VarHandle" ∧ (parseMethodDescriptor mX11_told.1.desc).map (fun d => d.parameters.length) = some 2 := by decide +kernel
theorem cmX11_limit : mX11_limit.1.cls ≠ "java/lang/invoke/MethodHandle" ∧ mX11_limit.1.cls ≠ "java/lang/invoke/VarHandle" ∧ (parseMethodDescriptor mX11_limit.1.desc).map (fun d => d.parameters.length) = some 2 := by decide +kernel
theorem cmX11_rule : mX11_rule.1.cls ≠ "java/lang/invoke/MethodHandle" ∧ mX11_rule.1.cls ≠ "java/lang/invoke/VarHandle" ∧ (parseMethodDescriptor mX11_rule.1.desc).map (fun d => d.parameters.length) = some 2 := by decide +kernel
theorem cmX11_bought : mX11_bought.1.cls ≠ "java/lang/invoke/MethodHandle" ∧ mX11_bought.1.cls ≠ "java/lang/invoke/VarHandle" ∧ (parseMethodDescriptor mX11_bought.1.desc).map (fun d => d.parameters.length) = some 2 := by decide +kernel
theorem cmX11_last : mX11_last.1.cls ≠ "java/lang/invoke/MethodHandle" ∧ mX11_last.1.cls ≠ "java/lang/invoke/VarHandle" ∧ (parseMethodDescriptor mX11_last.1.desc).map (fun d => d.parameters.length) = some 1 := by decide +kernel
theorem cmX11_gets : mX11_gets.1.cls ≠ "java/lang/invoke/MethodHandle" ∧ mX11_gets.1.cls ≠ "java/lang/invoke/VarHandle" ∧ (parseMethodDescriptor mX11_gets.1.desc).map (fun d => d.parameters.length) = some 1 := by decide +kernel
theorem cmX11_sum : mX11_sum.1.cls ≠ "java/lang/invoke/MethodHandle" ∧ mX11_sum.1.cls ≠ "java/lang/invoke/VarHandle" ∧ (parseMethodDescriptor mX11_sum.1.desc).map (fun d => d.parameters.length) = some 1 := by decide +kernel
theorem cmX11_without : mX11_without.1.cls ≠ "java/lang/invoke/MethodHandle" ∧ mX11_without.1.cls ≠ "java/lang/invoke/VarHandle" ∧ (parseMethodDescriptor mX11_without.1.desc).map (fun d => d.parameters.length) = some 1 := by decide +kernel
theorem cmX11_load : mX11_load.1.cls ≠ "java/lang/invoke/MethodHandle" ∧ mX11_load.1.cls ≠ "java/lang/invoke/VarHandle" ∧ (parseMethodDescriptor mX11_load.1.desc).map (fun d => d.parameters.length) = some 2 := by decide +kernel
theorem cmX11_stays : mX11_stays.1.cls ≠ "java/lang/invoke/MethodHandle" ∧ mX11_stays.1.cls ≠ "java/lang/invoke/VarHandle" ∧ (parseMethodDescriptor mX11_stays.1.desc).map (fun d => d.parameters.length) = some 1 := by decide +kernel
theorem cmX11_count : mX11_count.1.cls ≠ "java/lang/invoke/MethodHandle" ∧ mX11_count.1.cls ≠ "java/lang/invoke/VarHandle" ∧ (parseMethodDescriptor mX11_count.1.desc).map (fun d => d.parameters.length) = some 1 := by decide +kernel
theorem cmX11_isBelow : mX11_isBelow.1.cls ≠ "java/lang/invoke/MethodHandle" ∧ mX11_isBelow.1.cls ≠ "java/lang/invoke/VarHandle" ∧ (parseMethodDescriptor mX11_isBelow.1.desc).map (fun d => d.parameters.length) = some 2 := by decide +kernel
theorem cmX11_isWithin : mX11_isWithin.1.cls ≠ "java/lang/invoke/MethodHandle" ∧ mX11_isWithin.1.cls ≠ "java/lang/invoke/VarHandle" ∧ (parseMethodDescriptor mX11_isWithin.1.desc).map (fun d => d.parameters.length) = some 3 := by decide +kernel
theorem cmX12_init : mX12_init.1.cls ≠ "java/lang/invoke/MethodHandle" ∧ mX12_init.1.cls ≠ "java/lang/invoke/VarHandle" ∧ (parseMethodDescriptor mX12_init.1.desc).map (fun d => d.parameters.length) = some 0 := by decide +kernel
theorem cmX12_feed : mX12_feed.1.cls ≠ "java/lang/invoke/MethodHandle" ∧ mX12_feed.1.cls ≠ "java/lang/invoke/VarHandle" ∧ (parseMethodDescriptor mX12_feed.1.desc).map (fun d => d.parameters.length) = some 5 := by decide +kernel
theorem cmX12_put : mX12_put.1.cls ≠ "java/lang/invoke/MethodHandle" ∧ mX12_put.1.cls ≠ "java/lang/invoke/VarHandle" ∧ (parseMethodDescriptor mX12_put.1.desc).map (fun d => d.parameters.length) = some 1 := by decide +kernel
theorem cmX12_back : mX12_back.1.cls ≠ "java/lang/invoke/MethodHandle" ∧ mX12_back.1.cls ≠ "java/lang/invoke/VarHandle" ∧ (parseMethodDescriptor mX12_back.1.desc).map (fun d => d.parameters.length) = some 1 := by decide +kernel
theorem cmX12_at : mX12_at.1.cls ≠ "java/lang/invoke/MethodHandle" ∧ mX12_at.1.cls ≠ "java/lang/invoke/VarHandle" ∧ (parseMethodDescriptor mX12_at.1.desc).map (fun d => d.parameters.length) = some 1 := by decide +kernel
theorem cmX12_isDigit : mX12_isDigit.1.cls ≠ "java/lang/invoke/MethodHandle" ∧ mX12_isDigit.1.cls ≠ "java/lang/invoke/VarHandle" ∧ (parseMethodDescriptor mX12_isDigit.1.desc).map (fun d => d.parameters.length) = some 1 := by decide +kernel
theorem cmX12_isLetter : mX12_isLetter.1.cls ≠ "java/lang/invoke/MethodHandle" ∧ mX12_isLetter.1.cls ≠ "java/lang/invoke/VarHandle" ∧ (parseMethodDescriptor mX12_isLetter.1.desc).map (fun d => d.parameters.length) = some 1 := by decide +kernel
theorem cmX12_more : mX12_more.1.cls ≠ "java/lang/invoke/MethodHandle" ∧ mX12_more.1.cls ≠ "java/lang/invoke/VarHandle" ∧ (parseMethodDescriptor mX12_more.1.desc).map (fun d => d.parameters.length) = some 2 := by decide +kernel
theorem cmX12_word : mX12_word.1.cls ≠ "java/lang/invoke/MethodHandle" ∧ mX12_word.1.cls ≠ "java/lang/invoke/VarHandle" ∧ (parseMethodDescriptor mX12_word.1.desc).map (fun d => d.parameters.length) = some 7 := by decide +kernel
theorem cmX12_token : mX12_token.1.cls ≠ "java/lang/invoke/MethodHandle" ∧ mX12_token.1.cls ≠ "java/lang/invoke/VarHandle" ∧ (parseMethodDescriptor mX12_token.1.desc).map (fun d => d.parameters.length) = some 4 := by decide +kernel
theorem cmX12_cut : mX12_cut.1.cls ≠ "java/lang/invoke/MethodHandle" ∧ mX12_cut.1.cls ≠ "java/lang/invoke/VarHandle" ∧ (parseMethodDescriptor mX12_cut.1.desc).map (fun d => d.parameters.length) = some 0 := by decide +kernel
theorem cmX12_sign : mX12_sign.1.cls ≠ "java/lang/invoke/MethodHandle" ∧ mX12_sign.1.cls ≠ "java/lang/invoke/VarHandle" ∧ (parseMethodDescriptor mX12_sign.1.desc).map (fun d => d.parameters.length) = some 3 := by decide +kernel
theorem cmX12_is : mX12_is.1.cls ≠ "java/lang/invoke/MethodHandle" ∧ mX12_is.1.cls ≠ "java/lang/invoke/VarHandle" ∧ (parseMethodDescriptor mX12_is.1.desc).map (fun d => d.parameters.length) = some 1 := by decide +kernel
theorem cmX12_fail : mX12_fail.1.cls ≠ "java/lang/invoke/MethodHandle" ∧ mX12_fail.1.cls ≠ "java/lang/invoke/VarHandle" ∧ (parseMethodDescriptor mX12_fail.1.desc).map (fun d => d.parameters.length) = some 1 := by decide +kernel
theorem cmX12_next : mX12_next.1.cls ≠ "java/lang/invoke/MethodHandle" ∧ mX12_next.1.cls ≠ "java/lang/invoke/VarHandle" ∧ (parseMethodDescriptor mX12_next.1.desc).map (fun d => d.parameters.length) = some 0 := by decide +kernel
theorem cmX12_must : mX12_must.1.cls ≠ "java/lang/invoke/MethodHandle" ∧ mX12_must.1.cls ≠ "java/lang/invoke/VarHandle" ∧ (parseMethodDescriptor mX12_must.1.desc).map (fun d => d.parameters.length) = some 1 := by decide +kernel
theorem cmX12_read : mX12_read.1.cls ≠ "java/lang/invoke/MethodHandle" ∧ mX12_read.1.cls ≠ "java/lang/invoke/VarHandle" ∧ (parseMethodDescriptor mX12_read.1.desc).map (fun d => d.parameters.length) = some 1 := by decide +kernel
theorem cmX12_place : mX12_place.1.cls ≠ "java/lang/invoke/MethodHandle" ∧ mX12_place.1.cls ≠ "java/lang/invoke/VarHandle" ∧ (parseMethodDescriptor mX12_place.1.desc).map (fun d => d.parameters.length) = some 0 := by decide +kernel
theorem cmX12_tellRule : mX12_tellRule.1.cls ≠ "java/lang/invoke/MethodHandle" ∧ mX12_tellRule.1.cls ≠ "java/lang/invoke/VarHandle" ∧ (parseMethodDescriptor mX12_tellRule.1.desc).map (fun d => d.parameters.length) = some 0 := by decide +kernel
theorem cmX12_relation : mX12_relation.1.cls ≠ "java/lang/invoke/MethodHandle" ∧ mX12_relation.1.cls ≠ "java/lang/invoke/VarHandle" ∧ (parseMethodDescriptor mX12_relation.1.desc).map (fun d => d.parameters.length) = some 1 := by decide +kernel
theorem cmX12_emit : mX12_emit.1.cls ≠ "java/lang/invoke/MethodHandle" ∧ mX12_emit.1.cls ≠ "java/lang/invoke/VarHandle" ∧ (parseMethodDescriptor mX12_emit.1.desc).map (fun d => d.parameters.length) = some 2 := by decide +kernel
theorem cmX12_comesOut : mX12_comesOut.1.cls ≠ "java/lang/invoke/MethodHandle" ∧ mX12_comesOut.1.cls ≠ "java/lang/invoke/VarHandle" ∧ (parseMethodDescriptor mX12_comesOut.1.desc).map (fun d => d.parameters.length) = some 1 := by decide +kernel
theorem cmX12_expression : mX12_expression.1.cls ≠ "java/lang/invoke/MethodHandle" ∧ mX12_expression.1.cls ≠ "java/lang/invoke/VarHandle" ∧ (parseMethodDescriptor mX12_expression.1.desc).map (fun d => d.parameters.length) = some 0 := by decide +kernel
theorem cmX12_isBuyer : mX12_isBuyer.1.cls ≠ "java/lang/invoke/MethodHandle" ∧ mX12_isBuyer.1.cls ≠ "java/lang/invoke/VarHandle" ∧ (parseMethodDescriptor mX12_isBuyer.1.desc).map (fun d => d.parameters.length) = some 1 := by decide +kernel
theorem cmX12_isLot : mX12_isLot.1.cls ≠ "java/lang/invoke/MethodHandle" ∧ mX12_isLot.1.cls ≠ "java/lang/invoke/VarHandle" ∧ (parseMethodDescriptor mX12_isLot.1.desc).map (fun d => d.parameters.length) = some 1 := by decide +kernel
theorem cmX12_isKind : mX12_isKind.1.cls ≠ "java/lang/invoke/MethodHandle" ∧ mX12_isKind.1.cls ≠ "java/lang/invoke/VarHandle" ∧ (parseMethodDescriptor mX12_isKind.1.desc).map (fun d => d.parameters.length) = some 1 := by decide +kernel
theorem cmX12_lot : mX12_lot.1.cls ≠ "java/lang/invoke/MethodHandle" ∧ mX12_lot.1.cls ≠ "java/lang/invoke/VarHandle" ∧ (parseMethodDescriptor mX12_lot.1.desc).map (fun d => d.parameters.length) = some 5 := by decide +kernel
theorem cmX12_buyer : mX12_buyer.1.cls ≠ "java/lang/invoke/MethodHandle" ∧ mX12_buyer.1.cls ≠ "java/lang/invoke/VarHandle" ∧ (parseMethodDescriptor mX12_buyer.1.desc).map (fun d => d.parameters.length) = some 2 := by decide +kernel
theorem cmX12_want : mX12_want.1.cls ≠ "java/lang/invoke/MethodHandle" ∧ mX12_want.1.cls ≠ "java/lang/invoke/VarHandle" ∧ (parseMethodDescriptor mX12_want.1.desc).map (fun d => d.parameters.length) = some 3 := by decide +kernel
theorem cmX12_lorry : mX12_lorry.1.cls ≠ "java/lang/invoke/MethodHandle" ∧ mX12_lorry.1.cls ≠ "java/lang/invoke/VarHandle" ∧ (parseMethodDescriptor mX12_lorry.1.desc).map (fun d => d.parameters.length) = some 3 := by decide +kernel
theorem cmX12_left : mX12_left.1.cls ≠ "java/lang/invoke/MethodHandle" ∧ mX12_left.1.cls ≠ "java/lang/invoke/VarHandle" ∧ (parseMethodDescriptor mX12_left.1.desc).map (fun d => d.parameters.length) = some 2 := by decide +kernel
theorem cmX12_asks : mX12_asks.1.cls ≠ "java/lang/invoke/MethodHandle" ∧ mX12_asks.1.cls ≠ "java/lang/invoke/VarHandle" ∧ (parseMethodDescriptor mX12_asks.1.desc).map (fun d => d.parameters.length) = some 2 := by decide +kernel
theorem cmX12_value : mX12_value.1.cls ≠ "java/lang/invoke/MethodHandle" ∧ mX12_value.1.cls ≠ "java/lang/invoke/VarHandle" ∧ (parseMethodDescriptor mX12_value.1.desc).map (fun d => d.parameters.length) = some 2 := by decide +kernel
theorem cmX12_holds : mX12_holds.1.cls ≠ "java/lang/invoke/MethodHandle" ∧ mX12_holds.1.cls ≠ "java/lang/invoke/VarHandle" ∧ (parseMethodDescriptor mX12_holds.1.desc).map (fun d => d.parameters.length) = some 2 := by decide +kernel
theorem cmX12_ruleOf : mX12_ruleOf.1.cls ≠ "java/lang/invoke/MethodHandle" ∧ mX12_ruleOf.1.cls ≠ "java/lang/invoke/VarHandle" ∧ (parseMethodDescriptor mX12_ruleOf.1.desc).map (fun d => d.parameters.length) = some 2 := by decide +kernel
theorem cmX12_termOf : mX12_termOf.1.cls ≠ "java/lang/invoke/MethodHandle" ∧ mX12_termOf.1.cls ≠ "java/lang/invoke/VarHandle" ∧ (parseMethodDescriptor mX12_termOf.1.desc).map (fun d => d.parameters.length) = some 2 := by decide +kernel
theorem cmX12_held : mX12_held.1.cls ≠ "java/lang/invoke/MethodHandle" ∧ mX12_held.1.cls ≠ "java/lang/invoke/VarHandle" ∧ (parseMethodDescriptor mX12_held.1.desc).map (fun d => d.parameters.length) = some 3 := by decide +kernel
theorem cmX12_startOf : mX12_startOf.1.cls ≠ "java/lang/invoke/MethodHandle" ∧ mX12_startOf.1.cls ≠ "java/lang/invoke/VarHandle" ∧ (parseMethodDescriptor mX12_startOf.1.desc).map (fun d => d.parameters.length) = some 1 := by decide +kernel
theorem cmX12_leastOf : mX12_leastOf.1.cls ≠ "java/lang/invoke/MethodHandle" ∧ mX12_leastOf.1.cls ≠ "java/lang/invoke/VarHandle" ∧ (parseMethodDescriptor mX12_leastOf.1.desc).map (fun d => d.parameters.length) = some 2 := by decide +kernel
theorem cmX12_limitOf : mX12_limitOf.1.cls ≠ "java/lang/invoke/MethodHandle" ∧ mX12_limitOf.1.cls ≠ "java/lang/invoke/VarHandle" ∧ (parseMethodDescriptor mX12_limitOf.1.desc).map (fun d => d.parameters.length) = some 2 := by decide +kernel
theorem cmX12_goes : mX12_goes.1.cls ≠ "java/lang/invoke/MethodHandle" ∧ mX12_goes.1.cls ≠ "java/lang/invoke/VarHandle" ∧ (parseMethodDescriptor mX12_goes.1.desc).map (fun d => d.parameters.length) = some 1 := by decide +kernel
theorem cmX12_stops : mX12_stops.1.cls ≠ "java/lang/invoke/MethodHandle" ∧ mX12_stops.1.cls ≠ "java/lang/invoke/VarHandle" ∧ (parseMethodDescriptor mX12_stops.1.desc).map (fun d => d.parameters.length) = some 2 := by decide +kernel
theorem cmX12_sale : mX12_sale.1.cls ≠ "java/lang/invoke/MethodHandle" ∧ mX12_sale.1.cls ≠ "java/lang/invoke/VarHandle" ∧ (parseMethodDescriptor mX12_sale.1.desc).map (fun d => d.parameters.length) = some 0 := by decide +kernel
theorem cmX12_brings : mX12_brings.1.cls ≠ "java/lang/invoke/MethodHandle" ∧ mX12_brings.1.cls ≠ "java/lang/invoke/VarHandle" ∧ (parseMethodDescriptor mX12_brings.1.desc).map (fun d => d.parameters.length) = some 1 := by decide +kernel
theorem cmX12_day : mX12_day.1.cls ≠ "java/lang/invoke/MethodHandle" ∧ mX12_day.1.cls ≠ "java/lang/invoke/VarHandle" ∧ (parseMethodDescriptor mX12_day.1.desc).map (fun d => d.parameters.length) = some 0 := by decide +kernel
theorem cmX12_loads : mX12_loads.1.cls ≠ "java/lang/invoke/MethodHandle" ∧ mX12_loads.1.cls ≠ "java/lang/invoke/VarHandle" ∧ (parseMethodDescriptor mX12_loads.1.desc).map (fun d => d.parameters.length) = some 0 := by decide +kernel
theorem cmX12_told : mX12_told.1.cls ≠ "java/lang/invoke/MethodHandle" ∧ mX12_told.1.cls ≠ "java/lang/invoke/VarHandle" ∧ (parseMethodDescriptor mX12_told.1.desc).map (fun d => d.parameters.length) = some 2 := by decide +kernel
theorem cmX12_stands : mX12_stands.1.cls ≠ "java/lang/invoke/MethodHandle" ∧ mX12_stands.1.cls ≠ "java/lang/invoke/VarHandle" ∧ (parseMethodDescriptor mX12_stands.1.desc).map (fun d => d.parameters.length) = some 0 := by decide +kernel
theorem cmX12_limit : mX12_limit.1.cls ≠ "java/lang/invoke/MethodHandle" ∧ mX12_limit.1.cls ≠ "java/lang/invoke/VarHandle" ∧ (parseMethodDescriptor mX12_limit.1.desc).map (fun d => d.parameters.length) = some 2 := by decide +kernel
theorem cmX12_rule : mX12_rule.1.cls ≠ "java/lang/invoke/MethodHandle" ∧ mX12_rule.1.cls ≠ "java/lang/invoke/VarHandle" ∧ (parseMethodDescriptor mX12_rule.1.desc).map (fun d => d.parameters.length) = some 2 := by decide +kernel
theorem cmX12_bought : mX12_bought.1.cls ≠ "java/lang/invoke/MethodHandle" ∧ mX12_bought.1.cls ≠ "java/lang/invoke/VarHandle" ∧ (parseMethodDescriptor mX12_bought.1.desc).map (fun d => d.parameters.length) = some 2 := by decide +kernel
theorem cmX12_last : mX12_last.1.cls ≠ "java/lang/invoke/MethodHandle" ∧ mX12_last.1.cls ≠ "java/lang/invoke/VarHandle" ∧ (parseMethodDescriptor mX12_last.1.desc).map (fun d => d.parameters.length) = some 1 := by decide +kernel
theorem cmX12_gets : mX12_gets.1.cls ≠ "java/lang/invoke/MethodHandle" ∧ mX12_gets.1.cls ≠ "java/lang/invoke/VarHandle" ∧ (parseMethodDescriptor mX12_gets.1.desc).map (fun d => d.parameters.length) = some 1 := by decide +kernel
theorem cmX12_sum : mX12_sum.1.cls ≠ "java/lang/invoke/MethodHandle" ∧ mX12_sum.1.cls ≠ "java/lang/invoke/VarHandle" ∧ (parseMethodDescriptor mX12_sum.1.desc).map (fun d => d.parameters.length) = some 1 := by decide +kernel
theorem cmX12_without : mX12_without.1.cls ≠ "java/lang/invoke/MethodHandle" ∧ mX12_without.1.cls ≠ "java/lang/invoke/VarHandle" ∧ (parseMethodDescriptor mX12_without.1.desc).map (fun d => d.parameters.length) = some 1 := by decide +kernel
theorem cmX12_load : mX12_load.1.cls ≠ "java/lang/invoke/MethodHandle" ∧ mX12_load.1.cls ≠ "java/lang/invoke/VarHandle" ∧ (parseMethodDescriptor mX12_load.1.desc).map (fun d => d.parameters.length) = some 2 := by decide +kernel
theorem cmX12_stays : mX12_stays.1.cls ≠ "java/lang/invoke/MethodHandle" ∧ mX12_stays.1.cls ≠ "java/lang/invoke/VarHandle" ∧ (parseMethodDescriptor mX12_stays.1.desc).map (fun d => d.parameters.length) = some 1 := by decide +kernel
theorem cmX12_count : mX12_count.1.cls ≠ "java/lang/invoke/MethodHandle" ∧ mX12_count.1.cls ≠ "java/lang/invoke/VarHandle" ∧ (parseMethodDescriptor mX12_count.1.desc).map (fun d => d.parameters.length) = some 1 := by decide +kernel
theorem cmJ9_max_7cf53 : mJ9_max_7cf53.1.cls ≠ "java/lang/invoke/MethodHandle" ∧ mJ9_max_7cf53.1.cls ≠ "java/lang/invoke/VarHandle" ∧ (parseMethodDescriptor mJ9_max_7cf53.1.desc).map (fun d => d.parameters.length) = some 2 := by decide +kernel
theorem cmJ9_min_7cf53 : mJ9_min_7cf53.1.cls ≠ "java/lang/invoke/MethodHandle" ∧ mJ9_min_7cf53.1.cls ≠ "java/lang/invoke/VarHandle" ∧ (parseMethodDescriptor mJ9_min_7cf53.1.desc).map (fun d => d.parameters.length) = some 2 := by decide +kernel
theorem cmJ0_length_8abf5 : mJ0_length_8abf5.1.cls ≠ "java/lang/invoke/MethodHandle" ∧ mJ0_length_8abf5.1.cls ≠ "java/lang/invoke/VarHandle" ∧ (parseMethodDescriptor mJ0_length_8abf5.1.desc).map (fun d => d.parameters.length) = some 0 := by decide +kernel
theorem cmJ0_charAt_5068e : mJ0_charAt_5068e.1.cls ≠ "java/lang/invoke/MethodHandle" ∧ mJ0_charAt_5068e.1.cls ≠ "java/lang/invoke/VarHandle" ∧ (parseMethodDescriptor mJ0_charAt_5068e.1.desc).map (fun d => d.parameters.length) = some 1 := by decide +kernel
theorem cmJ0_coder_7d493 : mJ0_coder_7d493.1.cls ≠ "java/lang/invoke/MethodHandle" ∧ mJ0_coder_7d493.1.cls ≠ "java/lang/invoke/VarHandle" ∧ (parseMethodDescriptor mJ0_coder_7d493.1.desc).map (fun d => d.parameters.length) = some 0 := by decide +kernel
theorem cmJ0_isLatin1_aae02 : mJ0_isLatin1_aae02.1.cls ≠ "java/lang/invoke/MethodHandle" ∧ mJ0_isLatin1_aae02.1.cls ≠ "java/lang/invoke/VarHandle" ∧ (parseMethodDescriptor mJ0_isLatin1_aae02.1.desc).map (fun d => d.parameters.length) = some 0 := by decide +kernel
theorem cmJ0_checkIndex_df160 : mJ0_checkIndex_df160.1.cls ≠ "java/lang/invoke/MethodHandle" ∧ mJ0_checkIndex_df160.1.cls ≠ "java/lang/invoke/VarHandle" ∧ (parseMethodDescriptor mJ0_checkIndex_df160.1.desc).map (fun d => d.parameters.length) = some 2 := by decide +kernel
theorem cmJ1_charAt_3b067 : mJ1_charAt_3b067.1.cls ≠ "java/lang/invoke/MethodHandle" ∧ mJ1_charAt_3b067.1.cls ≠ "java/lang/invoke/VarHandle" ∧ (parseMethodDescriptor mJ1_charAt_3b067.1.desc).map (fun d => d.parameters.length) = some 2 := by decide +kernel
theorem cmJ2_getChar_3b067 : mJ2_getChar_3b067.1.cls ≠ "java/lang/invoke/MethodHandle" ∧ mJ2_getChar_3b067.1.cls ≠ "java/lang/invoke/VarHandle" ∧ (parseMethodDescriptor mJ2_getChar_3b067.1.desc).map (fun d => d.parameters.length) = some 2 := by decide +kernel
theorem cmJ2_length_9d52b : mJ2_length_9d52b.1.cls ≠ "java/lang/invoke/MethodHandle" ∧ mJ2_length_9d52b.1.cls ≠ "java/lang/invoke/VarHandle" ∧ (parseMethodDescriptor mJ2_length_9d52b.1.desc).map (fun d => d.parameters.length) = some 1 := by decide +kernel
theorem cmJ2_charAt_3b067 : mJ2_charAt_3b067.1.cls ≠ "java/lang/invoke/MethodHandle" ∧ mJ2_charAt_3b067.1.cls ≠ "java/lang/invoke/VarHandle" ∧ (parseMethodDescriptor mJ2_charAt_3b067.1.desc).map (fun d => d.parameters.length) = some 2 := by decide +kernel
theorem cmJ2_checkIndex_2214a : mJ2_checkIndex_2214a.1.cls ≠ "java/lang/invoke/MethodHandle" ∧ mJ2_checkIndex_2214a.1.cls ≠ "java/lang/invoke/VarHandle" ∧ (parseMethodDescriptor mJ2_checkIndex_2214a.1.desc).map (fun d => d.parameters.length) = some 2 := by decide +kernel
theorem cmJ3_checkIndex_8e157 : mJ3_checkIndex_8e157.1.cls ≠ "java/lang/invoke/MethodHandle" ∧ mJ3_checkIndex_8e157.1.cls ≠ "java/lang/invoke/VarHandle" ∧ (parseMethodDescriptor mJ3_checkIndex_8e157.1.desc).map (fun d => d.parameters.length) = some 3 := by decide +kernel
theorem ak_look_X4_tell_28 : ∀ x : Int, 0 ≤ ((28 : Nat) : Int) + Op.lookupswitch.offset (#[(0, 28), (1, 33)] : Array (Int × Int)).toList 38 x := by
  intro x
  simp only [Op.lookupswitch.offset]
  repeat' split
  all_goals omega
theorem ak_look_X9_partOfWithdrawn_1 : ∀ x : Int, 0 ≤ ((1 : Nat) : Int) + Op.lookupswitch.offset (#[(2, 27), (3, 37)] : Array (Int × Int)).toList 39 x := by
  intro x
  simp only [Op.lookupswitch.offset]
  repeat' split
  all_goals omega

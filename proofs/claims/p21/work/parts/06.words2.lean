set_option maxRecDepth 20000 in
theorem iX0_init : ∀ w ∈ wsX00, w ∈ wsX0_init := by decide +kernel
set_option maxRecDepth 20000 in
theorem iX0_addGood : ∀ w ∈ wsX00, w ∈ wsX0_addGood := by decide +kernel
set_option maxRecDepth 20000 in
theorem iX0_move : ∀ w ∈ wsX00, w ∈ wsX0_move := by decide +kernel
set_option maxRecDepth 20000 in
theorem iX0_delete : ∀ w ∈ wsX00, w ∈ wsX0_delete := by decide +kernel
set_option maxRecDepth 20000 in
theorem iX0_addPart : ∀ w ∈ wsX00, w ∈ wsX0_addPart := by decide +kernel
set_option maxRecDepth 20000 in
theorem iX0_setDiscount : ∀ w ∈ wsX00, w ∈ wsX0_setDiscount := by decide +kernel
set_option maxRecDepth 20000 in
theorem iX0_isGood : ∀ w ∈ wsX00, w ∈ wsX0_isGood := by decide +kernel
set_option maxRecDepth 20000 in
theorem iX0_levelOf : ∀ w ∈ wsX00, w ∈ wsX0_levelOf := by decide +kernel
set_option maxRecDepth 20000 in
theorem iX0_isWithin : ∀ w ∈ wsX00, w ∈ wsX0_isWithin := by decide +kernel
set_option maxRecDepth 20000 in
theorem iX0_isParent : ∀ w ∈ wsX00, w ∈ wsX0_isParent := by decide +kernel
set_option maxRecDepth 20000 in
theorem iX0_isPart : ∀ w ∈ wsX00, w ∈ wsX0_isPart := by decide +kernel
set_option maxRecDepth 20000 in
theorem iX0_draft : ∀ w ∈ wsX00, w ∈ wsX0_draft := by decide +kernel
set_option maxRecDepth 20000 in
theorem iX0_approve : ∀ w ∈ wsX00, w ∈ wsX0_approve := by decide +kernel
set_option maxRecDepth 20000 in
theorem iX0_reject : ∀ w ∈ wsX00, w ∈ wsX0_reject := by decide +kernel
set_option maxRecDepth 20000 in
theorem iX0_pass : ∀ w ∈ wsX00, w ∈ wsX0_pass := by decide +kernel
set_option maxRecDepth 20000 in
theorem iX0_isEntered : ∀ w ∈ wsX00, w ∈ wsX0_isEntered := by decide +kernel
set_option maxRecDepth 20000 in
theorem iX0_checkDraft : ∀ w ∈ wsX00, w ∈ wsX0_checkDraft := by decide +kernel
set_option maxRecDepth 20000 in
theorem iX0_holdsAtItsPlace : ∀ w ∈ wsX00, w ∈ wsX0_holdsAtItsPlace := by decide +kernel
set_option maxRecDepth 20000 in
theorem iX0_deleteDraftsOf : ∀ w ∈ wsX00, w ∈ wsX0_deleteDraftsOf := by decide +kernel
set_option maxRecDepth 20000 in
theorem iX0_settleHolders : ∀ w ∈ wsX00, w ∈ wsX0_settleHolders := by decide +kernel
set_option maxRecDepth 20000 in
theorem iX0_putHolder : ∀ w ∈ wsX00, w ∈ wsX0_putHolder := by decide +kernel
set_option maxRecDepth 20000 in
theorem iX0_told : ∀ w ∈ wsX00, w ∈ wsX0_told := by decide +kernel
set_option maxRecDepth 20000 in
theorem iX0_toggleAsked : ∀ w ∈ wsX00, w ∈ wsX0_toggleAsked := by decide +kernel
set_option maxRecDepth 20000 in
theorem iX0_complete : ∀ w ∈ wsX00, w ∈ wsX0_complete := by decide +kernel
set_option maxRecDepth 20000 in
theorem iX0_findValue : ∀ w ∈ wsX00, w ∈ wsX0_findValue := by decide +kernel
set_option maxRecDepth 20000 in
theorem iX0_findOrigin : ∀ w ∈ wsX00, w ∈ wsX0_findOrigin := by decide +kernel
set_option maxRecDepth 20000 in
theorem iX0_findOwnOrigin : ∀ w ∈ wsX00, w ∈ wsX0_findOwnOrigin := by decide +kernel
set_option maxRecDepth 20000 in
theorem iX0_findMissing : ∀ w ∈ wsX00, w ∈ wsX0_findMissing := by decide +kernel
set_option maxRecDepth 20000 in
theorem iX0_findPrice : ∀ w ∈ wsX00, w ∈ wsX0_findPrice := by decide +kernel
set_option maxRecDepth 20000 in
theorem iX0_sumUpParts : ∀ w ∈ wsX00, w ∈ wsX0_sumUpParts := by decide +kernel
set_option maxRecDepth 20000 in
theorem iX0_looksChanged : ∀ w ∈ wsX00, w ∈ wsX0_looksChanged := by decide +kernel
set_option maxRecDepth 20000 in
theorem iX0_rememberSights : ∀ w ∈ wsX00, w ∈ wsX0_rememberSights := by decide +kernel
set_option maxRecDepth 20000 in
theorem thI_checkParent : ∀ w ∈ (vx_atS RX0 126 "java/lang/IndexOutOfBoundsException" ["java/lang/RuntimeException", "java/lang/Exception"]).filter goodWord, w ∈ wsX0_checkParent := by decide +kernel
set_option maxRecDepth 20000 in
theorem thI_addGood : ∀ w ∈ (vx_atS RX0 126 "java/lang/IndexOutOfBoundsException" ["java/lang/RuntimeException", "java/lang/Exception"]).filter goodWord, w ∈ wsX0_addGood := by decide +kernel
set_option maxRecDepth 20000 in
theorem thS_addGood : ∀ w ∈ (vx_atS RX0 72 "java/lang/IllegalStateException" ["java/lang/RuntimeException", "java/lang/Exception"]).filter goodWord, w ∈ wsX0_addGood := by decide +kernel
set_option maxRecDepth 20000 in
theorem thI_checkGood : ∀ w ∈ (vx_atS RX0 126 "java/lang/IndexOutOfBoundsException" ["java/lang/RuntimeException", "java/lang/Exception"]).filter goodWord, w ∈ wsX0_checkGood := by decide +kernel
set_option maxRecDepth 20000 in
theorem thI_move : ∀ w ∈ (vx_atS RX0 126 "java/lang/IndexOutOfBoundsException" ["java/lang/RuntimeException", "java/lang/Exception"]).filter goodWord, w ∈ wsX0_move := by decide +kernel
set_option maxRecDepth 20000 in
theorem thS_move : ∀ w ∈ (vx_atS RX0 72 "java/lang/IllegalStateException" ["java/lang/RuntimeException", "java/lang/Exception"]).filter goodWord, w ∈ wsX0_move := by decide +kernel
set_option maxRecDepth 20000 in
theorem thI_delete : ∀ w ∈ (vx_atS RX0 126 "java/lang/IndexOutOfBoundsException" ["java/lang/RuntimeException", "java/lang/Exception"]).filter goodWord, w ∈ wsX0_delete := by decide +kernel
set_option maxRecDepth 20000 in
theorem thS_delete : ∀ w ∈ (vx_atS RX0 72 "java/lang/IllegalStateException" ["java/lang/RuntimeException", "java/lang/Exception"]).filter goodWord, w ∈ wsX0_delete := by decide +kernel
set_option maxRecDepth 20000 in
theorem thI_addPart : ∀ w ∈ (vx_atS RX0 126 "java/lang/IndexOutOfBoundsException" ["java/lang/RuntimeException", "java/lang/Exception"]).filter goodWord, w ∈ wsX0_addPart := by decide +kernel
set_option maxRecDepth 20000 in
theorem thS_addPart : ∀ w ∈ (vx_atS RX0 72 "java/lang/IllegalStateException" ["java/lang/RuntimeException", "java/lang/Exception"]).filter goodWord, w ∈ wsX0_addPart := by decide +kernel
set_option maxRecDepth 20000 in
theorem thA_addPart : ∀ w ∈ (vx_atS RX0 112 "java/lang/IllegalArgumentException" ["java/lang/RuntimeException", "java/lang/Exception"]).filter goodWord, w ∈ wsX0_addPart := by decide +kernel
set_option maxRecDepth 20000 in
theorem thI_setDiscount : ∀ w ∈ (vx_atS RX0 126 "java/lang/IndexOutOfBoundsException" ["java/lang/RuntimeException", "java/lang/Exception"]).filter goodWord, w ∈ wsX0_setDiscount := by decide +kernel
set_option maxRecDepth 20000 in
theorem thA_setDiscount : ∀ w ∈ (vx_atS RX0 112 "java/lang/IllegalArgumentException" ["java/lang/RuntimeException", "java/lang/Exception"]).filter goodWord, w ∈ wsX0_setDiscount := by decide +kernel
set_option maxRecDepth 20000 in
theorem thI_checkAttribute : ∀ w ∈ (vx_atS RX0 126 "java/lang/IndexOutOfBoundsException" ["java/lang/RuntimeException", "java/lang/Exception"]).filter goodWord, w ∈ wsX0_checkAttribute := by decide +kernel
set_option maxRecDepth 20000 in
theorem thI_checkShop : ∀ w ∈ (vx_atS RX0 126 "java/lang/IndexOutOfBoundsException" ["java/lang/RuntimeException", "java/lang/Exception"]).filter goodWord, w ∈ wsX0_checkShop := by decide +kernel
set_option maxRecDepth 20000 in
theorem thI_checkTongue : ∀ w ∈ (vx_atS RX0 126 "java/lang/IndexOutOfBoundsException" ["java/lang/RuntimeException", "java/lang/Exception"]).filter goodWord, w ∈ wsX0_checkTongue := by decide +kernel
set_option maxRecDepth 20000 in
theorem thI_draft : ∀ w ∈ (vx_atS RX0 126 "java/lang/IndexOutOfBoundsException" ["java/lang/RuntimeException", "java/lang/Exception"]).filter goodWord, w ∈ wsX0_draft := by decide +kernel
set_option maxRecDepth 20000 in
theorem thS_draft : ∀ w ∈ (vx_atS RX0 72 "java/lang/IllegalStateException" ["java/lang/RuntimeException", "java/lang/Exception"]).filter goodWord, w ∈ wsX0_draft := by decide +kernel
set_option maxRecDepth 20000 in
theorem thA_draft : ∀ w ∈ (vx_atS RX0 112 "java/lang/IllegalArgumentException" ["java/lang/RuntimeException", "java/lang/Exception"]).filter goodWord, w ∈ wsX0_draft := by decide +kernel
set_option maxRecDepth 20000 in
theorem thI_checkDraft : ∀ w ∈ (vx_atS RX0 126 "java/lang/IndexOutOfBoundsException" ["java/lang/RuntimeException", "java/lang/Exception"]).filter goodWord, w ∈ wsX0_checkDraft := by decide +kernel
set_option maxRecDepth 20000 in
theorem thI_approve : ∀ w ∈ (vx_atS RX0 126 "java/lang/IndexOutOfBoundsException" ["java/lang/RuntimeException", "java/lang/Exception"]).filter goodWord, w ∈ wsX0_approve := by decide +kernel
set_option maxRecDepth 20000 in
theorem thS_approve : ∀ w ∈ (vx_atS RX0 72 "java/lang/IllegalStateException" ["java/lang/RuntimeException", "java/lang/Exception"]).filter goodWord, w ∈ wsX0_approve := by decide +kernel
set_option maxRecDepth 20000 in
theorem thI_reject : ∀ w ∈ (vx_atS RX0 126 "java/lang/IndexOutOfBoundsException" ["java/lang/RuntimeException", "java/lang/Exception"]).filter goodWord, w ∈ wsX0_reject := by decide +kernel
set_option maxRecDepth 20000 in
theorem thS_reject : ∀ w ∈ (vx_atS RX0 72 "java/lang/IllegalStateException" ["java/lang/RuntimeException", "java/lang/Exception"]).filter goodWord, w ∈ wsX0_reject := by decide +kernel
set_option maxRecDepth 20000 in
theorem thA_pass : ∀ w ∈ (vx_atS RX0 112 "java/lang/IllegalArgumentException" ["java/lang/RuntimeException", "java/lang/Exception"]).filter goodWord, w ∈ wsX0_pass := by decide +kernel
set_option maxRecDepth 20000 in
theorem thI_value : ∀ w ∈ (vx_atS RX0 126 "java/lang/IndexOutOfBoundsException" ["java/lang/RuntimeException", "java/lang/Exception"]).filter goodWord, w ∈ wsX0_value := by decide +kernel
set_option maxRecDepth 20000 in
theorem thS_value : ∀ w ∈ (vx_atS RX0 72 "java/lang/IllegalStateException" ["java/lang/RuntimeException", "java/lang/Exception"]).filter goodWord, w ∈ wsX0_value := by decide +kernel
set_option maxRecDepth 20000 in
theorem thI_price : ∀ w ∈ (vx_atS RX0 126 "java/lang/IndexOutOfBoundsException" ["java/lang/RuntimeException", "java/lang/Exception"]).filter goodWord, w ∈ wsX0_price := by decide +kernel
set_option maxRecDepth 20000 in
theorem thS_price : ∀ w ∈ (vx_atS RX0 72 "java/lang/IllegalStateException" ["java/lang/RuntimeException", "java/lang/Exception"]).filter goodWord, w ∈ wsX0_price := by decide +kernel

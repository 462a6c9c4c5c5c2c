theorem xa_48 : ∀ w ∈ vx_atS RX6 48 "java/lang/IllegalStateException" xnames, w ∈ TW := by decide +kernel
theorem xg_48 (w : Cond) (hw : w ∈ vx_atS RX6 48 "java/lang/IllegalStateException" xnames) : vx_ot w = true := List.all_eq_true.mp (show (vx_atS RX6 48 "java/lang/IllegalStateException" xnames).all vx_ot = true from by decide +kernel) w hw
theorem xa_268 : ∀ w ∈ vx_atS RX6 268 "java/lang/IndexOutOfBoundsException" xnames, w ∈ TW := by decide +kernel
theorem xg_268 (w : Cond) (hw : w ∈ vx_atS RX6 268 "java/lang/IndexOutOfBoundsException" xnames) : vx_ot w = true := List.all_eq_true.mp (show (vx_atS RX6 268 "java/lang/IndexOutOfBoundsException" xnames).all vx_ot = true from by decide +kernel) w hw
theorem xa_89 : ∀ w ∈ vx_atS RX6 89 "java/lang/IllegalArgumentException" xnames, w ∈ TW := by decide +kernel
theorem xg_89 (w : Cond) (hw : w ∈ vx_atS RX6 89 "java/lang/IllegalArgumentException" xnames) : vx_ot w = true := List.all_eq_true.mp (show (vx_atS RX6 89 "java/lang/IllegalArgumentException" xnames).all vx_ot = true from by decide +kernel) w hw

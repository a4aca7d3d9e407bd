/-! words of the throws -/
def am_nm : List String := ["java/lang/RuntimeException", "java/lang/Exception"]
theorem am_nm_fit : ∀ n ∈ am_nm, Bundle.fit n = true := by decide +kernel
abbrev am_E1 : String := "java/lang/IndexOutOfBoundsException"
theorem xz1 : Cond.initialized am_E1 ∈ am_G := am_wd 31 (by decide +kernel) (by decide +kernel)
theorem xa1 : ∀ w ∈ vx_atS RX5 139 am_E1 am_nm, w ∈ am_G ∨ w ∈ am_Fw := by decide +kernel
theorem xg1 : ∀ w ∈ Cond.classLink RX5 135 am_E1 :: Cond.initialized am_E1 :: vx_atS RX5 139 am_E1 am_nm, vx_ot w = true := by decide +kernel
abbrev am_E2 : String := "java/lang/IllegalStateException"
theorem xz2 : Cond.initialized am_E2 ∈ am_G := am_wd 32 (by decide +kernel) (by decide +kernel)
theorem xa2 : ∀ w ∈ vx_atS RX5 59 am_E2 am_nm, w ∈ am_G ∨ w ∈ am_Fw := by decide +kernel
theorem xg2 : ∀ w ∈ Cond.classLink RX5 55 am_E2 :: Cond.initialized am_E2 :: vx_atS RX5 59 am_E2 am_nm, vx_ot w = true := by decide +kernel
abbrev am_E3 : String := "java/lang/IllegalArgumentException"
theorem xz3 : Cond.initialized am_E3 ∈ am_G := am_wd 34 (by decide +kernel) (by decide +kernel)
theorem xa3 : ∀ w ∈ vx_atS RX5 114 am_E3 am_nm, w ∈ am_G ∨ w ∈ am_Fw := by decide +kernel
theorem xg3 : ∀ w ∈ Cond.classLink RX5 110 am_E3 :: Cond.initialized am_E3 :: vx_atS RX5 114 am_E3 am_nm, vx_ot w = true := by decide +kernel
abbrev am_E4 : String := "java/util/NoSuchElementException"
theorem xz4 : Cond.initialized am_E4 ∈ am_G := am_wd 41 (by decide +kernel) (by decide +kernel)

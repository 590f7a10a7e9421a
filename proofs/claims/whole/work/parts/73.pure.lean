/-! PURE 73: words of throws -/
def xIA : String := "java/lang/IllegalArgumentException"
def xIS : String := "java/lang/IllegalStateException"
def xUO : String := "java/lang/UnsupportedOperationException"
def xNm : List String := ["java/lang/RuntimeException", "java/lang/Exception"]
theorem tw_1 : ∀ w ∈ vx_atS "WhoseGlass" 239 xIA xNm, w ∈ lw_tbl := by decide +kernel
theorem tw_2 : ∀ w ∈ vx_atS "WhoseGlass" 246 xIS xNm, w ∈ lw_tbl := by decide +kernel
theorem tw_3 : ∀ w ∈ vx_atS "WhoseGlass$Shelf" 42 xUO xNm, w ∈ lw_tbl := by decide +kernel
theorem tw_4 : ∀ w ∈ vx_atS "WhoseGlass$Shelf" 49 xIS xNm, w ∈ lw_tbl := by decide +kernel
theorem tw_5 : ∀ w ∈ vx_atS "WhoseGlass$Shelf" 54 xIA xNm, w ∈ lw_tbl := by decide +kernel
theorem to_1 : ∀ w ∈ vx_atS "WhoseGlass" 239 xIA xNm, vx_ot w = true := by decide +kernel
theorem to_2 : ∀ w ∈ vx_atS "WhoseGlass" 246 xIS xNm, vx_ot w = true := by decide +kernel
theorem to_3 : ∀ w ∈ vx_atS "WhoseGlass$Shelf" 42 xUO xNm, vx_ot w = true := by decide +kernel
theorem to_4 : ∀ w ∈ vx_atS "WhoseGlass$Shelf" 49 xIS xNm, vx_ot w = true := by decide +kernel
theorem to_5 : ∀ w ∈ vx_atS "WhoseGlass$Shelf" 54 xIA xNm, vx_ot w = true := by decide +kernel

/-! PURE 73: words of throws -/
def xIA : String := "java/lang/IllegalArgumentException"
def xIS : String := "java/lang/IllegalStateException"
def xUO : String := "java/lang/UnsupportedOperationException"
def xNm : List String := ["java/lang/RuntimeException", "java/lang/Exception"]
def xNg : List Cond := [.castable "java/lang/IllegalArgumentException" "java/lang/IllegalArgumentException", .castable "java/lang/IllegalStateException" "java/lang/IllegalStateException", .castable "java/lang/UnsupportedOperationException" "java/lang/UnsupportedOperationException", .declares (Bundle.initS "java/lang/RuntimeException"), .declares (Bundle.initS "java/lang/Exception"), .declares (Bundle.initS "java/lang/Throwable")]
theorem tw_1 : ∀ w ∈ vx_atS "WhoseGlass" 239 xIA xNm, w ∈ lw_tbl := by decide +kernel
theorem tw_2 : ∀ w ∈ vx_atS "WhoseGlass" 246 xIS xNm, w ∈ lw_tbl := by decide +kernel
theorem tw_3 : ∀ w ∈ vx_atS "WhoseGlass$Shelf" 40 xUO xNm, w ∈ lw_tbl := by decide +kernel
theorem tw_4 : ∀ w ∈ vx_atS "WhoseGlass$Shelf" 47 xIS xNm, w ∈ lw_tbl := by decide +kernel
theorem tw_5 : ∀ w ∈ vx_atS "WhoseGlass$Shelf" 52 xIA xNm, w ∈ lw_tbl := by decide +kernel
theorem to_1 : ∀ w ∈ vx_atS "WhoseGlass" 239 xIA xNm, vx_ot w = true := by decide +kernel
theorem to_2 : ∀ w ∈ vx_atS "WhoseGlass" 246 xIS xNm, vx_ot w = true := by decide +kernel
theorem to_3 : ∀ w ∈ vx_atS "WhoseGlass$Shelf" 40 xUO xNm, vx_ot w = true := by decide +kernel
theorem to_4 : ∀ w ∈ vx_atS "WhoseGlass$Shelf" 47 xIS xNm, vx_ot w = true := by decide +kernel
theorem to_5 : ∀ w ∈ vx_atS "WhoseGlass$Shelf" 52 xIA xNm, vx_ot w = true := by decide +kernel
theorem tb_1 : ∀ w ∈ (vx_atS "WhoseGlass" 239 xIA xNm).filter (fun w => !goodWord w), w ∈ xNg := by decide +kernel
theorem tb_2 : ∀ w ∈ (vx_atS "WhoseGlass" 246 xIS xNm).filter (fun w => !goodWord w), w ∈ xNg := by decide +kernel
theorem tb_3 : ∀ w ∈ (vx_atS "WhoseGlass$Shelf" 40 xUO xNm).filter (fun w => !goodWord w), w ∈ xNg := by decide +kernel
theorem tb_4 : ∀ w ∈ (vx_atS "WhoseGlass$Shelf" 47 xIS xNm).filter (fun w => !goodWord w), w ∈ xNg := by decide +kernel
theorem tb_5 : ∀ w ∈ (vx_atS "WhoseGlass$Shelf" 52 xIA xNm).filter (fun w => !goodWord w), w ∈ xNg := by decide +kernel

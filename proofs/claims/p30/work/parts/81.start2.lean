/-! Words of the law's start. -/
theorem wz_0 : Cond.classLink RL 8 RX10 ∈ WL := WL_in 138 (by decide +kernel) (by decide +kernel)
theorem wz_1 : Cond.instantiable RX10 15 ∈ WL := WL_in 139 (by decide +kernel) (by decide +kernel)
theorem wz_2 : Cond.methodLink RL 17 yX10_init ∈ WL := WL_in 140 (by decide +kernel) (by decide +kernel)
theorem wz_3 : Cond.instanceMethod yX10_init ∈ WL := WL_in 141 (by decide +kernel) (by decide +kernel)
theorem wz_4 : Cond.code yX10_init cX10_init 2 none ∈ WL := WL_in 142 (by decide +kernel) (by decide +kernel)
theorem wz_5 : Cond.classLink RL 18 RX11 ∈ WL := WL_in 1440 (by decide +kernel) (by decide +kernel)
theorem wz_6 : Cond.instantiable RX11 74 ∈ WL := WL_in 1441 (by decide +kernel) (by decide +kernel)
theorem wz_7 : Cond.methodLink RL 20 yX11_init ∈ WL := WL_in 1442 (by decide +kernel) (by decide +kernel)
theorem wz_8 : Cond.instanceMethod yX11_init ∈ WL := WL_in 1443 (by decide +kernel) (by decide +kernel)
set_option maxRecDepth 100000 in
theorem wz_9 : Cond.code yX11_init cX11_init 1 none ∈ WL := WL_in 1444 rfl rfl

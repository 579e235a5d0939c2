theorem q_in_Sys : Cond.initialized "java/lang/System" ∈ WW := ww_m 108 (by decide +kernel) (by decide +kernel)
theorem q_static_copy : Cond.static arraycopyName ∈ WW := ww_m 478 (by decide +kernel) (by decide +kernel)
theorem q_native_copy : Cond.native arraycopyName ∈ WW := ww_m 479 (by decide +kernel) (by decide +kernel)

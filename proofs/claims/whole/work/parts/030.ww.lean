def WW : List Cond := lw_tbl.filter goodWord
theorem ww_m {w : Cond} (i : Nat) (h : lw_tbl[i]? = some w) (hg : goodWord w = true) : w ∈ WW := List.mem_filter.mpr ⟨List.mem_of_getElem? h, hg⟩
theorem ww_good : ∀ w ∈ WW, goodWord w = true := fun _ h => (List.mem_filter.mp h).2
theorem ww_tbl : ∀ w ∈ WW, w ∈ lw_tbl := fun _ h => (List.mem_filter.mp h).1
theorem ww_l {ws : List Cond} (ps : List Nat) (hp : ws = ps.filterMap (fun i => lw_tbl[i]?)) (h : ws.all goodWord = true) : ∀ w ∈ ws, w ∈ WW := by
  intro w hw
  have h1 := List.all_eq_true.mp h w hw
  rw [hp] at hw
  obtain ⟨i, -, hi⟩ := List.mem_filterMap.mp hw
  exact ww_m i hi h1

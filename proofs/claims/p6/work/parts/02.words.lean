def gWs : List Cond := lw_tbl.filter goodWord
theorem gWs_good : ∀ w ∈ gWs, goodWord w = true := fun _ h => (List.mem_filter.mp h).2
theorem gWs_tbl : ∀ w ∈ gWs, w ∈ lw_tbl := fun _ h => (List.mem_filter.mp h).1
theorem gWm {w : Cond} (i : Nat) (h : lw_tbl[i]? = some w) (hg : goodWord w = true) : w ∈ gWs := List.mem_filter.mpr ⟨List.mem_of_getElem? h, hg⟩
theorem gw_oi : Cond.instanceMethod objectInit ∈ gWs := gWm 270 (by decide +kernel) rfl
theorem gw_oc : Cond.code objectInit ⟨#[0xb1]⟩ 1 none ∈ gWs := gWm 271 (by decide +kernel) rfl

/-! begins of the reference, from INV to INV. Printed by wip/p3/rows4.py. -/
def kr_begins : ex_E := ([.inr (.inr (.inl (some (nat_lit 345))))], ei_h0, none, ei_h0, (nat_lit 0))
def kr_begins_Y : List ex_Y := []
theorem kr_begins_l : ex_links (ex_runS ei_L0 (nat_lit 0) eu_128 none (ex_K none ei_h0)) [] kr_begins_Y = true := by decide +kernel
theorem kr_begins_e : ex_locs kr_begins.1 (nat_lit 2) (fun q => ex_runS ei_L0 (nat_lit 0) eu_128 none (ex_K none ei_h0) (ex_pick kr_begins_Y []) (0, q, [], ei_h0, 0, 0)) = true := by decide +kernel
theorem kr_begins_k {l : Launch} {D : va_G} {τ : Nat → ClassId} {sa : List Nat} {A : Nat → Prop} (hmn : em_mna) : em_E l D τ sa A em_inf (nat_lit 128) kr_begins := em_ofD hmn (ei_L0_k hmn) (tb := eu_128) (nl := (nat_lit 2)) (ret := none) rfl kr_begins_e (fun own mn by' hT y hy => ex_links_ok (fun Ss S => ex_runS_ok hmn (ei_L0_k hmn) hT Ss S) (fun _ h => absurd h List.not_mem_nil) _ kr_begins_l y (by rw [List.append_nil]; exact hy))

/-! carriage of the reference, from its entry. Printed by wip/p3/rows4.py. -/
def kl_j0 : List (Nat × List ex_E) := [((nat_lit 155), [ec_reads])]
def kr_carriage : ex_E := ([.inr (.inr (.inl (some (nat_lit 345))))], ei_h0, (some (.inr (.inr (.inr (.inl ((Int.negSucc (nat_lit 2147483647)), (Int.ofNat (nat_lit 2147483647)))))))), eih_a, (nat_lit 4))
def kr_carriage_Y : List ex_Y := [(((nat_lit 17), [some (.inr (.inr (.inl (some (nat_lit 345))))), some (.inl (Int.ofNat (nat_lit 4))), none], [], ei_hT, (nat_lit 0), (nat_lit 0)), [])]
theorem kl_j0_k {l : Launch} {D : va_G} {τ : Nat → ClassId} {sa : List Nat} {A : Nat → Prop} (hmn : em_mna) : em_L l D τ sa A em_inf kl_j0 := (List.forall_mem_cons.mpr ⟨(List.forall_mem_cons.mpr ⟨ec_reads_k hmn, (fun _ h => absurd h List.not_mem_nil)⟩), (fun _ h => absurd h List.not_mem_nil)⟩)
theorem ey_KtopA {r : Int} (h1 : -2147483648 ≤ r) (h2 : r ≤ 2147483647) : ex_K (some ex_top) eih_a (some (.inl r)) ei_hT = true := by
  show ((ex_le (-2147483648) r && ex_le r 2147483647) && ex_leH ei_hT eih_a) = true
  rw [(ex_le_iff _ _).mpr h1, (ex_le_iff _ _).mpr h2, et_leTA]; rfl
theorem kr_carriage_e : ex_locs kr_carriage.1 (nat_lit 3) (fun q => ex_runS kl_j0 (nat_lit 4) eu_157 (some .int) (ex_K (some (.inr (.inr (.inr (.inl ((Int.negSucc (nat_lit 2147483647)), (Int.ofNat (nat_lit 2147483647)))))))) eih_a) (ex_pick kr_carriage_Y [(nat_lit 0)]) (0, q, [], ei_h0, 0, 0)) = true := by decide +kernel
theorem kr_carriage_k {l : Launch} {D : va_G} {τ : Nat → ClassId} {sa : List Nat} {A : Nat → Prop} (hmn : em_mna) : em_E l D τ sa A em_inf (nat_lit 157) kr_carriage := em_ofD hmn (kl_j0_k hmn) (tb := eu_157) (nl := (nat_lit 3)) (ret := (some .int)) rfl kr_carriage_e (fun own mn by' hT y hy => by
  rcases List.mem_singleton.mp hy with rfl
  exact eq_ca_K hmn hT (Nat.le_of_ble_eq_true rfl) (fun r r0 r1 => ey_KtopA r0 r1) 231 4 (by decide) (by decide))

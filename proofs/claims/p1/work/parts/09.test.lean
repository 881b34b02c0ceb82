/-- the cells that nobody writes -/
def eh_0 : ex_H := (5, [[(0, 0, 11, 0, []), (0, 0, 11, 0, []), (0, 0, 11, 0, []), (0, 0, 10, 0, []), (0, 0, 6, 0, [])]])
noncomputable def eh_start (k : ex_H → Bool) : Bool := ex_get et_cls 12 (fun fs => ex_hpush eh_0 (3, 12, 0, 0, fs) (fun h => ex_call et_cls et_vt et_ms 100000 20 127 [.inr (.inr (.inl (some 5)))] h (fun _ h => k h)))
set_option maxRecDepth 100000 in
theorem eh_t0 : eh_start (fun _ => true) = true := by decide +kernel
set_option maxRecDepth 100000 in
theorem eh_t1 : eh_start (fun h => ex_call et_cls et_vt et_ms 100000 20 172 [.inr (.inr (.inl (some 5))), .inl 0, .inl 1, .inl 0, .inl 0] h (fun v _ => match v with | some (.inl z) => ex_eq z 48 | _ => false)) = true := by decide +kernel

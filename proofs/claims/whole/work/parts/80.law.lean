theorem ac_int : Cond.arrayClass .int ∈ WS := ws_1 52 rfl rfl
theorem ac_bool : Cond.arrayClass .boolean ∈ WS := ws_1 212 rfl rfl
theorem ao_Si : Cond.arrayOver (.object RX3) ∈ tables_1 := List.mem_append_left _ (List.mem_of_getElem? (i := 156) rfl)
def Sh0 : Sh := (0, fun _ => (0, 0), fun _ _ => none)
theorem law_wp (Γ : Cx) (hL : Γ.2.1.1 ≤ 384) : WP Γ M_La_law (600000, 7302250) Sh0 (fun _ _ => 0) (fun _ _ => 0) 0 [.ref 0, .null, .null, .null] [] (fun r _ _ _ => r = some (.int 1)) := by
  sorry

/-! At the start -/
theorem st3_z {j : Nat} (h : 3 ≤ j) : st3 j = 0 := by
  unfold st3
  rw [upd_ne (by omega), upd_ne (by omega), upd_ne (by omega)]
  rfl
theorem br0 : BR st3 st3 0 0 0 (10 * 0) (fun _ => 0) := by
  refine BR.mk (by omega) (by omega) rfl rfl (fun j _ => by rw [Nat.zero_add]) rfl ⟨1, by omega, rfl⟩ ⟨2, by omega, by omega, rfl⟩ ⟨0, by omega, rfl, rfl, rfl⟩ (fun r _ => ?_) (fun k _ hk => ?_) (fun k _ hk => ?_) (fun hk => ?_) (fun k hk => ?_) (fun k hk => ?_) (fun k hk => ?_) (fun k hk => ?_) (fun k hk => ?_) (fun k hk => ?_) (fun k hk => ?_) (fun k _ => ?_) (fun k _ _ => ?_)
  · rw [st3_z (by omega), st3_z (by omega)]
  all_goals first
    | exact absurd hk (by omega)
    | (rw [st3_z (by omega)]; exact bt_0 _)
    | exact st3_z (by omega)
theorem rel0 : REL st3 zz zz (fun _ => zz) (fun _ => zz) zz zz st3 zz zz (upd zz 5 (-6)) := by
  refine ⟨⟨0, 0, 0, fun _ => 0, by omega, ⟨10, by omega, by omega, rfl⟩, br0, fun _ => 0, fun _ => 0, ⟨by omega, rfl, fun i hi => absurd hi (by omega)⟩, ⟨by omega, rfl, fun i hi => absurd hi (by omega)⟩, fun i hi => absurd hi (by omega), fun i _ => ?_⟩, ⟨0, 0, by omega, by omega, rfl, rfl, rfl, fun j h1 h2 => absurd h2 (by omega)⟩, upd_eq _ _ _, ⟨0, by omega, rfl, rfl, fun j hj => absurd hj (by omega)⟩, fun k _ => ⟨Iff.rfl, fun h => absurd rfl h⟩⟩
  rw [st3_z (by omega)]
  exact bt_0 _

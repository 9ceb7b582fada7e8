/-- from the entry, for every script of at most 2048 ints, the law comes to its end with true -/
theorem whole_start {p : Program} {e : Env} {s : State} {m : MethodId} {below : List Frame} {meth : Method} {c : Code} (l : Launch) (hflags : l.flags = flags0) {b L : Nat} {xs : Nat → Int32} (hL : L ≤ 2048) (C0 : lw_At p s m meth c b L xs) : W p l e room_1 s m #[Value.ref b] below meth c s.heap [] 0 0 (lw_Z below #[Value.ref b] s) (entryFrame m ([Value.ref b] : List Value).toArray 4) := by
  obtain ⟨hx, hb, hr, hml, hown, hw, hX, hbl, hlocks, hgv⟩ := C0
  obtain ⟨D, cs, hK, hO⟩ := known0 hw
  have hts : ∀ w ∈ lw_tg, w.before #[Value.ref b] s = true := fun w h => hw w (List.mem_filter.mp h).1
  have hl := lv_entry ([.ref b]) (n := 4) (Nat.le_of_ble_eq_true rfl)
  rw [lg_entry_eq]
  have C : LC (p, l, e, room_1, s, m, #[Value.ref b], below, meth, c, D, cs, fun q => s.heap.size ≤ q, fun _ _ _ _ => True) b L xs := ⟨hx, hb, hr, hml, hown, hts, hX, hbl, hlocks, hK, fun _ h => h, Nat.not_le.mpr hbl, fun _ h => h, zst0 hw hgv, hL⟩
  exact start_J rfl rfl C hO s.heap [] _ (fun k q h => by simp at h) ⟨fun i j p q h => by simp at h, fun k q h => by simp at h⟩ va_S.rf hl

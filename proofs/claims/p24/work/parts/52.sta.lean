set_option maxHeartbeats 4000000 in
set_option maxRecDepth 20000 in
/-- from the entry, for every script of at most 260 ints, the law comes to its end with true -/
theorem whole_start {p : Program} {e : Env} {s : State} {m : MethodId} {below : List Frame} {meth : Method} {c : Code} (l : Launch) (hflags : l.flags = flags0) {b L : Nat} {xs : Nat → Int32} (hL : L ≤ 260) (C0 : lw_At p s m meth c b L xs) : W p l e room_1 s m #[Value.ref b] below meth c s.heap [] 0 0 (lw_Z below #[Value.ref b] s) (entryFrame m ([Value.ref b] : List Value).toArray 8) := by
  obtain ⟨hx, hb, hr, hml, hown, hts0, hX, hbl, hlocks, hgv⟩ := C0
  have hb : c.code = cL_law := hb
  have hown : s.vm.findClass RL = some m.cls := hown
  have hts : ∀ w ∈ wsL_law, w.before #[Value.ref b] s = true := fun w h => hts0 w (wsL_law_in w h)
  obtain ⟨D, y, hE⟩ := lw_env hts0
  have hZ := lw_z hts0 hgv
  have hAO : jAO s := va_AO.of (hts0 _ (List.mem_of_getElem? (i := 215) (by decide +kernel)))
  obtain ⟨A, hAe⟩ : ∃ A : Nat → Prop, A = fun q : Nat => s.heap.size ≤ q := ⟨_, rfl⟩
  rw [← hAe] at hZ
  have hA : ∀ q : Nat, s.heap.size ≤ q → A q := fun q h => by rw [hAe]; exact h
  have hA2 : ∀ q : Nat, A q → s.heap.size ≤ q := fun q h => by rw [hAe] at h; exact h
  have hbA : ¬ A b := fun h => absurd (hA2 b h) (Nat.not_le.mpr hbl)
  have hP : va_P D vwCl ([] : List va_W).flatten s.heap := fun k q h => by simp at h
  have hD : va_D A ([] : List va_W).flatten := ⟨fun i j p q h => by simp at h, fun k q h => by simp at h⟩
  have hS : va_S A s.heap s.heap [] := va_S.rf
  have hl := lv_entry ([.ref b]) (n := 8) (Nat.le_of_ble_eq_true rfl)
  rw [lg_entry_eq]
  generalize (lg_sl ([.ref b]) ++ List.replicate (8 - (lg_sl ([.ref b])).length) Slot.unset).toArray = ls at hl ⊢
  have hl : lv_has ls 8 [(0, .ref b)] := hl
  refine jnew (ci := 7) (C := RX7) (T := TX7) (N := 6) (fs := [.null, .null, .null, .null, .null, .null]) hx hb hts0 hown hE hP hD hS hA inX7 tyX7 tyX7_ok rfl (List.mem_of_getElem? (i := 42) (by decide +kernel)) (List.mem_of_getElem? (i := 43) (by decide +kernel)) (List.mem_of_getElem? (i := 32) (by decide +kernel)) (fun j hj => by rcases (show j = 0 ∨ j = 1 ∨ j = 2 ∨ j = 3 ∨ j = 4 ∨ j = 5 by omega) with rfl | rfl | rfl | rfl | rfl | rfl <;> rfl) (Nat.le_of_ble_eq_true rfl) (Nat.le_of_ble_eq_true rfl) dL_law_0 (fun q0 H hP hD hS => ?_)
  refine lv_dup hx hb dL_law_3 rfl ?_
  refine jPc (bs0 := []) (cs := [[(q0, .inr (7, [.null, .null, .null, .null, .null, .null]))]]) hx hb hml hown hts hE hZ hAO hA hP hD hS (ct_X7_init l D y q0) (cwI 0 hts gL_law_X7_init rfl rfl rfl (hts0 _ (List.mem_of_getElem? (i := 32) (by decide +kernel))) (hts0 _ (List.mem_of_getElem? (i := 44) (by decide +kernel))) (hts0 _ (List.mem_of_getElem? (i := 45) (by decide +kernel))) rfl (by decide +kernel) ⟨by decide, by decide⟩) hl.1 (Nat.le_of_ble_eq_true rfl) (Nat.le_of_ble_eq_true rfl) (Nat.le_of_ble_eq_true rfl) dL_law_4 (fun u H locs hG hPn hDn hS => ?_)
  subst hG
  have hP : va_P D vwCl ([jetW y u.1 u.2 iT (fun _ => iX)] : List va_W).flatten H := jPone1 (bs0 := []) hPn
  have hD : va_D A ([jetW y u.1 u.2 iT (fun _ => iX)] : List va_W).flatten := jDone1 (bs0 := []) hDn
  refine lv_astore_n (lv' := [(1, .ref (u.1 0)), (0, .ref b)]) hx hb dL_law_7 rfl hl (by decide) rfl (fun ls hl => ?_)
  have hW : OSt 0 iT (fun _ => iX) iX 0 0 iX iX := ⟨0, 0, by omega, by omega, by omega, rfl, rfl, fun j => SI_bo SI_0, rfl, rfl, rfl, rfl, rfl⟩
  refine lw_body (L := L) (b := b) (a := u.1) (bb := u.2) (T := iT) (Z := fun _ => iX) ⟨hx, hb, hml, hown, hts, hE, hZ, hA, ⟨by decide, by decide⟩, ⟨Nat.le_of_ble_eq_true rfl, Nat.le_of_ble_eq_true rfl⟩⟩ hX hbl hbA hL (fun H locs ls hS => ?_) hW rfl hP hD hS hl
  refine va_forget (fun q hq => hA2 _ (hS.2.2 q hq)) ?_
  refine W.widen (k := 600000) (n := 7302250) (by decide) (by decide) ?_
  exact lw_ret hx hb hr hlocks dL_law_406

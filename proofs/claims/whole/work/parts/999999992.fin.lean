/-! the law's run, from its entry to its end -/

theorem stM_R {L : Nat} {xs : Nat → Int32} {fz : Int} (hz : fz ≤ 0) : ∀ f k, fR (stM L xs fz) f k ≤ 0 := fun f k => by
  rw [fR_stM]
  split
  · omega
  · split
    · decide
    · split
      · exact hz
      · decide
theorem stM_A {L : Nat} {xs : Nat → Int32} {fz : Int} : ∀ r j, aR (stM L xs fz) r j ≤ 0 := fun r j => by
  rw [aR_stM]
  decide
theorem st_go {L : Nat} {xs : Nat → Int32} {fz : Int} (hL : L ≤ 3584) (hf : fz ≤ 0) {Q : Option AV → Hp → Prop} (hQ : ∀ σ', Q (some (vi 1)) σ') : GoF M_L_law Q 0 [some (vr (-33)), none, none, none, none, none, none] [] (stM L xs fz) (0, 0) := by
  have e : fR (stM L xs fz) 3000 0 = -32 := by
    rw [fR_stM, if_neg (fun q => absurd q.1 (by decide)), if_pos ⟨rfl, rfl⟩]
  refine law_start (n := (L : Int)) nx_stM (Wf_stM hL) ?_ TXT_stM (by decide) ⟨?_, ln_stM_s, fun j => ?_⟩ (stM_R hf) stM_A ⟨by omega, by omega⟩ hQ
  · rw [e]
    exact ⟨by rw [kd_stM]; rfl, ln_stM_r⟩
  · rw [kd_stM]
    rfl
  · rw [aI_stM, if_neg (by decide), if_pos rfl]
    exact i32_rg _
theorem st_end {p : Program} {l : Launch} {e : Env} {s : State} {m : MethodId} {below : List Frame} {meth : Method} {c : Code} {b L : Nat} {xs : Nat → Int32} {fz : Int} {g : GG} (hL : L ≤ 3584) (hf : fz ≤ 0) (C : MC g p s m #[Value.ref b] meth c RL cL_law 7 (some FieldType.boolean)) (hB : HB g s (stM L xs fz) s.heap) (hP : PX g l s) (h33 : ad g (-33) = b) (hgB : gB g = s.heap.size) : W p l e room_1 s m #[Value.ref b] below meth c s.heap [] 0 0 (fun t => ∃ o, t.status = .running ∧ Ended t below o ∧ o = .returned (some (.int 1)) ∧ Framed s o t [] 601024 7293034) (entryFrame m ([Value.ref b] : List Value).toArray 7) := by
  have hgo : GoF M_L_law (fun r _ => r = some (vi 1)) 0 [some (vr (-33)), none, none, none, none, none, none] [] (stM L xs fz) (0, 0) := st_go hL hf (fun _ => rfl)
  rw [GoF_eq] at hgo
  have hw := hgo g p l e s m #[Value.ref b] below meth c hP C (fun h => absurd h (by decide))
  have ea : List.map (cv g) [vr (-33)] = [Value.ref b] := by
    show [va_rf (rv g (-33))] = _
    rw [rv_ne (by decide), h33]
    rfl
  have hW : W p l e (rmOf 45 601024 7293034) s m #[Value.ref b] below meth c s.heap [] 0 0 (MQ below (OutS g fun r _ => r = some (vi 1)) #[Value.ref b] s 601024 7293034 (AF g)) (entryFrame m ([Value.ref b] : List Value).toArray 7) := by
    have h9 := ww_entry (g := g) (p := p) (l := l) (e := e) (s := s) (m := m) (below := below) (meth := meth) (cd := c) (av := [vr (-33)]) (nL := 7) (lv := 45) (mc := 601024) (ms := 7293034) (σ := stM L xs fz) (Q := MQ below (OutS g fun r _ => r = some (vi 1)) #[Value.ref b] s 601024 7293034 (AF g)) (by show (argL1 [vr (-33)]).length ≤ 7; decide) hB (by rw [ea]; exact hw)
    rw [ea] at h9
    exact h9
  intro T hT X
  have X' : Stand p l e (rmOf 45 601024 7293034) s m #[Value.ref b] below meth c T [] 0 0 := { X with room := room_mono (R := room_1) (by decide) (by decide) (by decide) (by decide) X.room }
  obtain ⟨t, q1, o, q2, q3, ⟨⟨r, σ', q4, q5, -⟩, -⟩, L9, q6, q7⟩ := hW T hT X'
  refine ⟨t, q1, o, q2, q3, ?_, q6.1, q6.2.1, q6.2.2.weaken (fun y hy hlt => ?_) (Nat.le_refl _) (Nat.le_refl _)⟩
  · rw [q4, q5]
    rfl
  · have h : gB g ≤ y.base := q7 y hy
    rw [hgB] at h
    exact absurd hlt (Nat.not_lt.mpr h)

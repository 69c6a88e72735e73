/-! The start: what the Statement gives, gathered; both objects made; then the loop. -/
def I00 (n : Nat) : Nat → Int32 := if n = 13 then (fun j => if j < 8 then (-1) else 0) else if n = 14 then (fun j => if j < 6 then (-1) else 0) else if n = 219 then pat 140 else if n = 4 then (fun i => if i = 3 then (-1) else if i = 5 then 8 else 0) else fun _ => 0
def h00 : HP := (I00, fun _ _ => 0, 100)
theorem st_cl : ∀ (c : Nat) (r : vw_C), classes[c]? = some r → (∀ w ∈ u_ws r.1 r.2.1 r.2.2, w ∈ ALL) ∧ ∃ n, Cond.instantiable r.1 n ∈ ALL := by
  intro c r h
  rcases c with _ | _ | _ | _ | _ | _ | _ | _ | _ | _ | c
  · obtain rfl := Option.some.inj h
    exact ⟨kf_0.2.1, 3, in_all (in_t1 (List.mem_of_getElem? (i := 30) rfl)) rfl⟩
  · obtain rfl := Option.some.inj h
    exact ⟨kf_1.2.1, 2, in_all (in_t1 (List.mem_of_getElem? (i := 69) rfl)) rfl⟩
  · obtain rfl := Option.some.inj h
    exact ⟨kf_2.2.1, 3, in_all (in_t1 (List.mem_of_getElem? (i := 51) rfl)) rfl⟩
  · obtain rfl := Option.some.inj h
    exact ⟨kf_3.2.1, 6, in_all (in_t1 (List.mem_of_getElem? (i := 84) rfl)) rfl⟩
  · obtain rfl := Option.some.inj h
    exact ⟨kf_4.2.1, 3, in_all (in_t1 (List.mem_of_getElem? (i := 109) rfl)) rfl⟩
  · obtain rfl := Option.some.inj h
    exact ⟨kf_5.2.1, 3, in_all (in_t1 (List.mem_of_getElem? (i := 133) rfl)) rfl⟩
  · obtain rfl := Option.some.inj h
    exact ⟨kf_6.2.1, 2, in_all (in_t1 (List.mem_of_getElem? (i := 152) rfl)) rfl⟩
  · obtain rfl := Option.some.inj h
    exact ⟨kf_7.2.1, 9, in_all (in_t1 (List.mem_of_getElem? (i := 125) rfl)) rfl⟩
  · obtain rfl := Option.some.inj h
    exact ⟨kf_8.2.1, 7, in_all (in_t1 (List.mem_of_getElem? (i := 22) rfl)) rfl⟩
  · obtain rfl := Option.some.inj h
    exact ⟨kf_9.2.1, 36, in_all (in_t4 (List.mem_of_getElem? (i := 81) rfl)) rfl⟩
  · simp [classes] at h
theorem st_prim {args : Array Value} {s : State} {ty : FieldType} (hra : ∀ (x : ClassId), s.vm.findClass ("[" ++ ty.toString) = some x → va_RA s x ty) (h : (Cond.arrayClass ty).before args s = true) : ∃ cA, ArrOfT s cA ty ∧ va_RA s cA ty := by
  obtain ⟨c, k, comp, h1, h2, h3⟩ := Cond.arrayClass_spec h
  exact ⟨c, fun n z => ⟨fun k h => (by cases h), k, h2, comp, h3⟩, hra c h1⟩
theorem st_ref {args : Array Value} {s : State} {K : String} (h : (Cond.arrayOver (.object K)).before args s = true) : ∃ cA, ArrOfT s cA (.object K) ∧ va_RA s cA (.object K) := by
  obtain ⟨comp, c, k, h1, -, h2, h3, h4⟩ := Cond.arrayOver_spec h
  exact ⟨c, fun n z => ⟨fun k h => (by cases h), k, h2, comp, h3⟩, k, comp, h2, h3, h1, h4⟩
theorem st_K {args : Array Value} {s : State} (hts : ∀ w ∈ lw_tbl, w.before args s = true) : ∃ (D : va_G) (AK : Nat → ClassId), va_K D classes (tysOf AK) s ∧ AO s := by
  have hall : ∀ w ∈ ALL, w.before args s = true := fun w h => hts w (List.mem_filter.mp h).1
  have hc : ∀ c : Nat, ∃ q : ClassId × (Nat → Nat), ∀ r : vw_C, classes[c]? = some r → u_Kn s r.1 r.2.1 r.2.2 q.1 q.2 := by
    intro c
    cases h : classes[c]? with
    | none => exact ⟨(0, fun _ => 0), fun r hr => by cases hr⟩
    | some r0 =>
      obtain ⟨h1, n, h2⟩ := st_cl c r0 h
      obtain ⟨cC, iS, h3⟩ := u_known hall h1 (hall _ h2)
      exact ⟨(cC, iS), fun r hr => by cases hr; exact h3⟩
  obtain ⟨F, hF⟩ := Classical.axiomOfChoice hc
  obtain ⟨a0, A0⟩ := st_prim (by intros; first | rfl | assumption) (hts _ (List.mem_append_right _ (in_t1 (List.mem_of_getElem? (i := 47) rfl))))
  obtain ⟨a1, A1⟩ := st_prim (by intros; first | rfl | assumption) (hts _ (List.mem_append_right _ (in_t1 (List.mem_of_getElem? (i := 46) rfl))))
  obtain ⟨a2, A2⟩ := st_prim (by intros; first | rfl | assumption) (hts _ (List.mem_append_right _ (in_t1 (List.mem_of_getElem? (i := 45) rfl))))
  obtain ⟨a3, A3⟩ := st_ref (hts _ (List.mem_append_right _ (in_t1 (List.mem_of_getElem? (i := 57) rfl))))
  obtain ⟨a4, A4⟩ := st_ref (hts _ (List.mem_append_right _ (in_t1 (List.mem_of_getElem? (i := 49) rfl))))
  obtain ⟨a5, A5⟩ := st_prim (by intros; first | rfl | assumption) (hts _ (List.mem_append_right _ (in_t4 (List.mem_of_getElem? (i := 195) rfl))))
  refine ⟨(fun c => (F c).1, fun c => (F c).2), fun k => match k with | 0 => a0 | 1 => a1 | 2 => a2 | 3 => a3 | 4 => a4 | _ => a5, ⟨fun c q hq => hF c q hq, fun k q hq => ?_⟩, ⟨va_AO.of (hts _ (List.mem_append_right _ (in_t1 (List.mem_of_getElem? (i := 57) rfl)))), va_AO.of (hts _ (List.mem_append_right _ (in_t1 (List.mem_of_getElem? (i := 49) rfl))))⟩⟩
  rcases k with _ | _ | _ | _ | _ | _ | k
  · cases hq; exact A0
  · cases hq; exact A1
  · cases hq; exact A2
  · cases hq; exact A3
  · cases hq; exact A4
  · cases hq; exact A5
  · simp [tysOf] at hq
theorem st_nests : ∀ q ∈ nests, Cond.methodLinkNest q.1 q.2.1 q.2.2.1 q.2.2.2 ∈ tables_1 := by
  unfold nests
  exact List.forall_mem_cons.mpr ⟨(in_t1 (List.mem_of_getElem? (i := 31) rfl)), List.forall_mem_cons.mpr ⟨(in_t1 (List.mem_of_getElem? (i := 58) rfl)), List.forall_mem_cons.mpr ⟨(in_t1 (List.mem_of_getElem? (i := 70) rfl)), List.forall_mem_cons.mpr ⟨(in_t1 (List.mem_of_getElem? (i := 75) rfl)), List.forall_mem_cons.mpr ⟨(in_t1 (List.mem_of_getElem? (i := 131) rfl)), List.forall_mem_cons.mpr ⟨(in_t2 (List.mem_of_getElem? (i := 42) rfl)), List.forall_mem_cons.mpr ⟨(in_t2 (List.mem_of_getElem? (i := 45) rfl)), List.forall_mem_cons.mpr ⟨(in_t2 (List.mem_of_getElem? (i := 52) rfl)), List.forall_mem_cons.mpr ⟨(in_t2 (List.mem_of_getElem? (i := 114) rfl)), List.forall_mem_cons.mpr ⟨(in_t2 (List.mem_of_getElem? (i := 115) rfl)), List.forall_mem_cons.mpr ⟨(in_t2 (List.mem_of_getElem? (i := 116) rfl)), List.forall_mem_cons.mpr ⟨(in_t2 (List.mem_of_getElem? (i := 135) rfl)), List.forall_mem_cons.mpr ⟨(in_t2 (List.mem_of_getElem? (i := 141) rfl)), List.forall_mem_cons.mpr ⟨(in_t3 (List.mem_of_getElem? (i := 3) rfl)), List.forall_mem_cons.mpr ⟨(in_t3 (List.mem_of_getElem? (i := 161) rfl)), List.forall_mem_cons.mpr ⟨(in_t3 (List.mem_of_getElem? (i := 201) rfl)), fun _ h => absurd h List.not_mem_nil⟩⟩⟩⟩⟩⟩⟩⟩⟩⟩⟩⟩⟩⟩⟩⟩
theorem st_str {i : Nat} (hi : i < nS) : Cond.stringRef (ownS i) (ixS i) (txS i) ∈ tables_1 := by
  rcases i with _ | _ | _ | _ | _ | _ | _ | _ | _ | _ | _ | _ | _ | _ | _ | i
  · exact (in_t1 (List.mem_of_getElem? (i := 157) rfl))
  · exact (in_t3 (List.mem_of_getElem? (i := 22) rfl))
  · exact (in_t3 (List.mem_of_getElem? (i := 23) rfl))
  · exact (in_t3 (List.mem_of_getElem? (i := 24) rfl))
  · exact (in_t3 (List.mem_of_getElem? (i := 25) rfl))
  · exact (in_t3 (List.mem_of_getElem? (i := 26) rfl))
  · exact (in_t3 (List.mem_of_getElem? (i := 27) rfl))
  · exact (in_t3 (List.mem_of_getElem? (i := 28) rfl))
  · exact (in_t3 (List.mem_of_getElem? (i := 29) rfl))
  · exact (in_t3 (List.mem_of_getElem? (i := 30) rfl))
  · exact (in_t3 (List.mem_of_getElem? (i := 31) rfl))
  · exact (in_t3 (List.mem_of_getElem? (i := 32) rfl))
  · exact (in_t3 (List.mem_of_getElem? (i := 33) rfl))
  · exact (in_t3 (List.mem_of_getElem? (i := 34) rfl))
  · exact (in_t3 (List.mem_of_getElem? (i := 35) rfl))
  · exact absurd hi (by unfold nS; omega)
def tmS (i : Nat) : Term := Term.string (ownS i) (ixS i)
theorem bL {args : Array Value} {s : State} {a b : Cond} (h : (Cond.and a b).before args s = true) : a.before args s = true := by rw [Cond.before_and, Bool.and_eq_true] at h; exact h.1
theorem bR {args : Array Value} {s : State} {a b : Cond} (h : (Cond.and a b).before args s = true) : b.before args s = true := by rw [Cond.before_and, Bool.and_eq_true] at h; exact h.2
section FS
variable {args : Array Value} {s : State}
theorem fs_ex (hgv : (Jvm.Cond.and given_1 narrow_1).before args s = true) : ∀ i : Nat, i < nS → (Cond.exactly (tmS i) "java/lang/String").before args s = true := by
  intro i hi
  rcases i with _ | _ | _ | _ | _ | _ | _ | _ | _ | _ | _ | _ | _ | _ | _ | i
  · exact bL (bR (bR (bR (bL (bL (bL (bL (bL (bR hgv)))))))))
  · exact bL (bR (bR (bR (bR (bL (bL (bL (bL (bR hgv)))))))))
  · exact bL (bR (bR (bL (bR (bL (bL (bL (bR hgv))))))))
  · exact bL (bL (bR (bL (bL (bR (bL (bL (bR hgv))))))))
  · exact bL (bR (bR (bL (bL (bR (bR (bL (bL (bR hgv)))))))))
  · exact bL (bL (bR (bR (bR (bR (bL (bL (bR hgv))))))))
  · exact bL (bR (bR (bR (bR (bL (bL (bR (bL (bR hgv)))))))))
  · exact bR (bL (bL (bL (bL (bR (bR (bL (bR hgv))))))))
  · exact bL (bL (bL (bR (bR (bR (bR (bL (bR hgv))))))))
  · exact bL (bR (bR (bL (bR (bL (bL (bL (bR (bR hgv)))))))))
  · exact bR (bL (bL (bR (bR (bL (bL (bR (bR hgv))))))))
  · exact bL (bR (bR (bR (bR (bL (bR (bL (bR (bR hgv)))))))))
  · exact bR (bL (bR (bL (bL (bL (bR (bR (bR hgv))))))))
  · exact bL (bR (bR (bL (bR (bR (bL (bR (bR (bR hgv)))))))))
  · exact bL (bR (bL (bL (bR (bR (bR (bR (bR hgv))))))))
  · exact absurd hi (by unfold nS; omega)
theorem fs_co (hgv : (Jvm.Cond.and given_1 narrow_1).before args s = true) : ∀ i : Nat, i < nS → (Cond.eq (.field (tmS i) "java/lang/String" "coder" "B") (.int 0)).before args s = true := by
  intro i hi
  rcases i with _ | _ | _ | _ | _ | _ | _ | _ | _ | _ | _ | _ | _ | _ | _ | i
  · exact bR (bR (bR (bR (bL (bL (bL (bL (bL (bR hgv)))))))))
  · exact bR (bR (bR (bR (bR (bL (bL (bL (bL (bR hgv)))))))))
  · exact bL (bR (bR (bR (bL (bR (bL (bL (bL (bR hgv)))))))))
  · exact bR (bL (bR (bL (bL (bR (bL (bL (bR hgv))))))))
  · exact bR (bR (bR (bL (bL (bR (bR (bL (bL (bR hgv)))))))))
  · exact bR (bL (bR (bR (bR (bR (bL (bL (bR hgv))))))))
  · exact bR (bR (bR (bR (bR (bL (bL (bR (bL (bR hgv)))))))))
  · exact bL (bR (bL (bL (bL (bR (bR (bL (bR hgv))))))))
  · exact bR (bL (bL (bR (bR (bR (bR (bL (bR hgv))))))))
  · exact bR (bR (bR (bL (bR (bL (bL (bL (bR (bR hgv)))))))))
  · exact bL (bR (bL (bR (bR (bL (bL (bR (bR hgv))))))))
  · exact bR (bR (bR (bR (bR (bL (bR (bL (bR (bR hgv)))))))))
  · exact bL (bR (bR (bL (bL (bL (bR (bR (bR hgv))))))))
  · exact bR (bR (bR (bL (bR (bR (bL (bR (bR (bR hgv)))))))))
  · exact bL (bR (bR (bL (bL (bR (bR (bR (bR (bR hgv)))))))))
  · exact absurd hi (by unfold nS; omega)
theorem fs_ar (hgv : (Jvm.Cond.and given_1 narrow_1).before args s = true) : ∀ i : Nat, i < nS → (Cond.arrayOf (.field (tmS i) "java/lang/String" "value" "[B") .byte).before args s = true := by
  intro i hi
  rcases i with _ | _ | _ | _ | _ | _ | _ | _ | _ | _ | _ | _ | _ | _ | _ | i
  · exact bL (bL (bL (bR (bL (bL (bL (bL (bR hgv))))))))
  · exact bL (bL (bL (bL (bR (bL (bL (bL (bR hgv))))))))
  · exact bR (bR (bR (bR (bL (bR (bL (bL (bL (bR hgv)))))))))
  · exact bL (bR (bR (bL (bL (bR (bL (bL (bR hgv))))))))
  · exact bL (bL (bR (bL (bR (bR (bL (bL (bR hgv))))))))
  · exact bL (bR (bR (bR (bR (bR (bL (bL (bR hgv))))))))
  · exact bL (bL (bL (bL (bR (bL (bR (bL (bR hgv))))))))
  · exact bR (bR (bL (bL (bL (bR (bR (bL (bR hgv))))))))
  · exact bL (bR (bL (bR (bR (bR (bR (bL (bR hgv))))))))
  · exact bL (bL (bR (bR (bL (bL (bL (bR (bR hgv))))))))
  · exact bL (bR (bR (bL (bR (bR (bL (bL (bR (bR hgv)))))))))
  · exact bL (bL (bL (bL (bR (bR (bL (bR (bR hgv))))))))
  · exact bL (bR (bR (bR (bL (bL (bL (bR (bR (bR hgv)))))))))
  · exact bL (bL (bR (bR (bR (bL (bR (bR (bR hgv))))))))
  · exact bR (bR (bR (bL (bL (bR (bR (bR (bR (bR hgv)))))))))
  · exact absurd hi (by unfold nS; omega)
theorem fs_le (hgv : (Jvm.Cond.and given_1 narrow_1).before args s = true) : ∀ i : Nat, i < nS → (Cond.eq (.length (.field (tmS i) "java/lang/String" "value" "[B")) (.int (Int32.ofNat (lenS.getD i 0)))).before args s = true := by
  intro i hi
  rcases i with _ | _ | _ | _ | _ | _ | _ | _ | _ | _ | _ | _ | _ | _ | _ | i
  · exact bR (bL (bL (bR (bL (bL (bL (bL (bR hgv))))))))
  · exact bR (bL (bL (bL (bR (bL (bL (bL (bR hgv))))))))
  · exact bL (bL (bL (bR (bR (bL (bL (bL (bR hgv))))))))
  · exact bL (bR (bR (bR (bL (bL (bR (bL (bL (bR hgv)))))))))
  · exact bR (bL (bR (bL (bR (bR (bL (bL (bR hgv))))))))
  · exact bL (bR (bR (bR (bR (bR (bR (bL (bL (bR hgv)))))))))
  · exact bR (bL (bL (bL (bR (bL (bR (bL (bR hgv))))))))
  · exact bL (bL (bR (bL (bL (bR (bR (bL (bR hgv))))))))
  · exact bL (bR (bR (bL (bR (bR (bR (bR (bL (bR hgv)))))))))
  · exact bR (bL (bR (bR (bL (bL (bL (bR (bR hgv))))))))
  · exact bR (bR (bR (bL (bR (bR (bL (bL (bR (bR hgv)))))))))
  · exact bR (bL (bL (bL (bR (bR (bL (bR (bR hgv))))))))
  · exact bR (bR (bR (bR (bL (bL (bL (bR (bR (bR hgv)))))))))
  · exact bR (bL (bR (bR (bR (bL (bR (bR (bR hgv))))))))
  · exact bL (bL (bR (bL (bR (bR (bR (bR (bR hgv))))))))
  · exact absurd hi (by unfold nS; omega)
theorem fs_el (hgv : (Jvm.Cond.and given_1 narrow_1).before args s = true) : ∀ i : Nat, i < nS → ∀ j : Nat, j < lenS.getD i 0 → (Cond.eq (.elem (.field (tmS i) "java/lang/String" "value" "[B") (.int (Int32.ofNat j))) (.int ((bytS.getD i []).getD j 0))).before args s = true := by
  intro i hi j hj
  rcases i with _ | _ | _ | _ | _ | _ | _ | _ | _ | _ | _ | _ | _ | _ | _ | i
  · have hj : j < 6 := hj
    rcases j with _ | _ | _ | _ | _ | _ | j
    · exact bL (bR (bL (bR (bL (bL (bL (bL (bR hgv))))))))
    · exact bL (bR (bR (bL (bR (bL (bL (bL (bL (bR hgv)))))))))
    · exact bR (bR (bR (bL (bR (bL (bL (bL (bL (bR hgv)))))))))
    · exact bL (bL (bR (bR (bL (bL (bL (bL (bR hgv))))))))
    · exact bR (bL (bR (bR (bL (bL (bL (bL (bR hgv))))))))
    · exact bL (bR (bR (bR (bL (bL (bL (bL (bR hgv))))))))
    · omega
  · have hj : j < 3 := hj
    rcases j with _ | _ | _ | j
    · exact bL (bR (bL (bL (bR (bL (bL (bL (bR hgv))))))))
    · exact bR (bR (bL (bL (bR (bL (bL (bL (bR hgv))))))))
    · exact bL (bL (bR (bL (bR (bL (bL (bL (bR hgv))))))))
    · omega
  · have hj : j < 11 := hj
    rcases j with _ | _ | _ | _ | _ | _ | _ | _ | _ | _ | _ | j
    · exact bR (bL (bL (bR (bR (bL (bL (bL (bR hgv))))))))
    · exact bL (bR (bL (bR (bR (bL (bL (bL (bR hgv))))))))
    · exact bL (bR (bR (bL (bR (bR (bL (bL (bL (bR hgv)))))))))
    · exact bR (bR (bR (bL (bR (bR (bL (bL (bL (bR hgv)))))))))
    · exact bL (bL (bR (bR (bR (bL (bL (bL (bR hgv))))))))
    · exact bR (bL (bR (bR (bR (bL (bL (bL (bR hgv))))))))
    · exact bL (bR (bR (bR (bR (bL (bL (bL (bR hgv))))))))
    · exact bL (bR (bR (bR (bR (bR (bL (bL (bL (bR hgv)))))))))
    · exact bR (bR (bR (bR (bR (bR (bL (bL (bL (bR hgv)))))))))
    · exact bL (bL (bL (bL (bL (bR (bL (bL (bR hgv))))))))
    · exact bR (bL (bL (bL (bL (bR (bL (bL (bR hgv))))))))
    · omega
  · have hj : j < 11 := hj
    rcases j with _ | _ | _ | _ | _ | _ | _ | _ | _ | _ | _ | j
    · exact bR (bR (bR (bR (bL (bL (bR (bL (bL (bR hgv)))))))))
    · exact bL (bL (bL (bR (bL (bR (bL (bL (bR hgv))))))))
    · exact bR (bL (bL (bR (bL (bR (bL (bL (bR hgv))))))))
    · exact bL (bR (bL (bR (bL (bR (bL (bL (bR hgv))))))))
    · exact bL (bR (bR (bL (bR (bL (bR (bL (bL (bR hgv)))))))))
    · exact bR (bR (bR (bL (bR (bL (bR (bL (bL (bR hgv)))))))))
    · exact bL (bL (bR (bR (bL (bR (bL (bL (bR hgv))))))))
    · exact bR (bL (bR (bR (bL (bR (bL (bL (bR hgv))))))))
    · exact bL (bR (bR (bR (bL (bR (bL (bL (bR hgv))))))))
    · exact bL (bR (bR (bR (bR (bL (bR (bL (bL (bR hgv)))))))))
    · exact bR (bR (bR (bR (bR (bL (bR (bL (bL (bR hgv)))))))))
    · omega
  · have hj : j < 4 := hj
    rcases j with _ | _ | _ | _ | j
    · exact bL (bR (bR (bL (bR (bR (bL (bL (bR hgv))))))))
    · exact bL (bR (bR (bR (bL (bR (bR (bL (bL (bR hgv)))))))))
    · exact bR (bR (bR (bR (bL (bR (bR (bL (bL (bR hgv)))))))))
    · exact bL (bL (bL (bR (bR (bR (bL (bL (bR hgv))))))))
    · omega
  · have hj : j < 13 := hj
    rcases j with _ | _ | _ | _ | _ | _ | _ | _ | _ | _ | _ | _ | _ | j
    · exact bR (bR (bR (bR (bR (bR (bR (bL (bL (bR hgv)))))))))
    · exact bL (bL (bL (bL (bL (bL (bR (bL (bR hgv))))))))
    · exact bR (bL (bL (bL (bL (bL (bR (bL (bR hgv))))))))
    · exact bL (bR (bL (bL (bL (bL (bR (bL (bR hgv))))))))
    · exact bR (bR (bL (bL (bL (bL (bR (bL (bR hgv))))))))
    · exact bL (bL (bR (bL (bL (bL (bR (bL (bR hgv))))))))
    · exact bR (bL (bR (bL (bL (bL (bR (bL (bR hgv))))))))
    · exact bL (bR (bR (bL (bL (bL (bR (bL (bR hgv))))))))
    · exact bL (bR (bR (bR (bL (bL (bL (bR (bL (bR hgv)))))))))
    · exact bR (bR (bR (bR (bL (bL (bL (bR (bL (bR hgv)))))))))
    · exact bL (bL (bL (bR (bL (bL (bR (bL (bR hgv))))))))
    · exact bR (bL (bL (bR (bL (bL (bR (bL (bR hgv))))))))
    · exact bL (bR (bL (bR (bL (bL (bR (bL (bR hgv))))))))
    · omega
  · have hj : j < 13 := hj
    rcases j with _ | _ | _ | _ | _ | _ | _ | _ | _ | _ | _ | _ | _ | j
    · exact bL (bR (bL (bL (bR (bL (bR (bL (bR hgv))))))))
    · exact bL (bR (bR (bL (bL (bR (bL (bR (bL (bR hgv)))))))))
    · exact bR (bR (bR (bL (bL (bR (bL (bR (bL (bR hgv)))))))))
    · exact bL (bL (bR (bL (bR (bL (bR (bL (bR hgv))))))))
    · exact bR (bL (bR (bL (bR (bL (bR (bL (bR hgv))))))))
    · exact bL (bR (bR (bL (bR (bL (bR (bL (bR hgv))))))))
    · exact bL (bR (bR (bR (bL (bR (bL (bR (bL (bR hgv)))))))))
    · exact bR (bR (bR (bR (bL (bR (bL (bR (bL (bR hgv)))))))))
    · exact bL (bL (bL (bR (bR (bL (bR (bL (bR hgv))))))))
    · exact bR (bL (bL (bR (bR (bL (bR (bL (bR hgv))))))))
    · exact bL (bR (bL (bR (bR (bL (bR (bL (bR hgv))))))))
    · exact bL (bR (bR (bL (bR (bR (bL (bR (bL (bR hgv)))))))))
    · exact bR (bR (bR (bL (bR (bR (bL (bR (bL (bR hgv)))))))))
    · omega
  · have hj : j < 17 := hj
    rcases j with _ | _ | _ | _ | _ | _ | _ | _ | _ | _ | _ | _ | _ | _ | _ | _ | _ | j
    · exact bR (bL (bR (bL (bL (bR (bR (bL (bR hgv))))))))
    · exact bL (bR (bR (bL (bL (bR (bR (bL (bR hgv))))))))
    · exact bL (bR (bR (bR (bL (bL (bR (bR (bL (bR hgv)))))))))
    · exact bR (bR (bR (bR (bL (bL (bR (bR (bL (bR hgv)))))))))
    · exact bL (bL (bL (bR (bL (bR (bR (bL (bR hgv))))))))
    · exact bR (bL (bL (bR (bL (bR (bR (bL (bR hgv))))))))
    · exact bL (bR (bL (bR (bL (bR (bR (bL (bR hgv))))))))
    · exact bL (bR (bR (bL (bR (bL (bR (bR (bL (bR hgv)))))))))
    · exact bR (bR (bR (bL (bR (bL (bR (bR (bL (bR hgv)))))))))
    · exact bL (bL (bR (bR (bL (bR (bR (bL (bR hgv))))))))
    · exact bR (bL (bR (bR (bL (bR (bR (bL (bR hgv))))))))
    · exact bL (bR (bR (bR (bL (bR (bR (bL (bR hgv))))))))
    · exact bL (bR (bR (bR (bR (bL (bR (bR (bL (bR hgv)))))))))
    · exact bR (bR (bR (bR (bR (bL (bR (bR (bL (bR hgv)))))))))
    · exact bL (bL (bL (bL (bR (bR (bR (bL (bR hgv))))))))
    · exact bR (bL (bL (bL (bR (bR (bR (bL (bR hgv))))))))
    · exact bL (bR (bL (bL (bR (bR (bR (bL (bR hgv))))))))
    · omega
  · have hj : j < 10 := hj
    rcases j with _ | _ | _ | _ | _ | _ | _ | _ | _ | _ | j
    · exact bR (bR (bR (bL (bR (bR (bR (bR (bL (bR hgv)))))))))
    · exact bL (bL (bR (bR (bR (bR (bR (bL (bR hgv))))))))
    · exact bR (bL (bR (bR (bR (bR (bR (bL (bR hgv))))))))
    · exact bL (bR (bR (bR (bR (bR (bR (bL (bR hgv))))))))
    · exact bL (bR (bR (bR (bR (bR (bR (bR (bL (bR hgv)))))))))
    · exact bR (bR (bR (bR (bR (bR (bR (bR (bL (bR hgv)))))))))
    · exact bL (bL (bL (bL (bL (bL (bL (bR (bR hgv))))))))
    · exact bR (bL (bL (bL (bL (bL (bL (bR (bR hgv))))))))
    · exact bL (bR (bL (bL (bL (bL (bL (bR (bR hgv))))))))
    · exact bR (bR (bL (bL (bL (bL (bL (bR (bR hgv))))))))
    · omega
  · have hj : j < 4 := hj
    rcases j with _ | _ | _ | _ | j
    · exact bL (bR (bR (bR (bL (bL (bL (bR (bR hgv))))))))
    · exact bL (bR (bR (bR (bR (bL (bL (bL (bR (bR hgv)))))))))
    · exact bR (bR (bR (bR (bR (bL (bL (bL (bR (bR hgv)))))))))
    · exact bL (bL (bL (bL (bR (bL (bL (bR (bR hgv))))))))
    · omega
  · have hj : j < 12 := hj
    rcases j with _ | _ | _ | _ | _ | _ | _ | _ | _ | _ | _ | _ | j
    · exact bL (bL (bR (bR (bR (bL (bL (bR (bR hgv))))))))
    · exact bR (bL (bR (bR (bR (bL (bL (bR (bR hgv))))))))
    · exact bL (bR (bR (bR (bR (bL (bL (bR (bR hgv))))))))
    · exact bL (bR (bR (bR (bR (bR (bL (bL (bR (bR hgv)))))))))
    · exact bR (bR (bR (bR (bR (bR (bL (bL (bR (bR hgv)))))))))
    · exact bL (bL (bL (bL (bL (bR (bL (bR (bR hgv))))))))
    · exact bR (bL (bL (bL (bL (bR (bL (bR (bR hgv))))))))
    · exact bL (bR (bL (bL (bL (bR (bL (bR (bR hgv))))))))
    · exact bR (bR (bL (bL (bL (bR (bL (bR (bR hgv))))))))
    · exact bL (bL (bR (bL (bL (bR (bL (bR (bR hgv))))))))
    · exact bR (bL (bR (bL (bL (bR (bL (bR (bR hgv))))))))
    · exact bL (bR (bR (bL (bL (bR (bL (bR (bR hgv))))))))
    · omega
  · have hj : j < 12 := hj
    rcases j with _ | _ | _ | _ | _ | _ | _ | _ | _ | _ | _ | _ | j
    · exact bL (bR (bL (bL (bR (bR (bL (bR (bR hgv))))))))
    · exact bL (bR (bR (bL (bL (bR (bR (bL (bR (bR hgv)))))))))
    · exact bR (bR (bR (bL (bL (bR (bR (bL (bR (bR hgv)))))))))
    · exact bL (bL (bR (bL (bR (bR (bL (bR (bR hgv))))))))
    · exact bR (bL (bR (bL (bR (bR (bL (bR (bR hgv))))))))
    · exact bL (bR (bR (bL (bR (bR (bL (bR (bR hgv))))))))
    · exact bL (bR (bR (bR (bL (bR (bR (bL (bR (bR hgv)))))))))
    · exact bR (bR (bR (bR (bL (bR (bR (bL (bR (bR hgv)))))))))
    · exact bL (bL (bL (bR (bR (bR (bL (bR (bR hgv))))))))
    · exact bR (bL (bL (bR (bR (bR (bL (bR (bR hgv))))))))
    · exact bL (bR (bL (bR (bR (bR (bL (bR (bR hgv))))))))
    · exact bL (bR (bR (bL (bR (bR (bR (bL (bR (bR hgv)))))))))
    · omega
  · have hj : j < 11 := hj
    rcases j with _ | _ | _ | _ | _ | _ | _ | _ | _ | _ | _ | j
    · exact bL (bL (bL (bR (bL (bL (bR (bR (bR hgv))))))))
    · exact bR (bL (bL (bR (bL (bL (bR (bR (bR hgv))))))))
    · exact bL (bR (bL (bR (bL (bL (bR (bR (bR hgv))))))))
    · exact bL (bR (bR (bL (bR (bL (bL (bR (bR (bR hgv)))))))))
    · exact bR (bR (bR (bL (bR (bL (bL (bR (bR (bR hgv)))))))))
    · exact bL (bL (bR (bR (bL (bL (bR (bR (bR hgv))))))))
    · exact bR (bL (bR (bR (bL (bL (bR (bR (bR hgv))))))))
    · exact bL (bR (bR (bR (bL (bL (bR (bR (bR hgv))))))))
    · exact bL (bR (bR (bR (bR (bL (bL (bR (bR (bR hgv)))))))))
    · exact bR (bR (bR (bR (bR (bL (bL (bR (bR (bR hgv)))))))))
    · exact bL (bL (bL (bL (bR (bL (bR (bR (bR hgv))))))))
    · omega
  · have hj : j < 11 := hj
    rcases j with _ | _ | _ | _ | _ | _ | _ | _ | _ | _ | _ | j
    · exact bL (bR (bR (bR (bR (bL (bR (bR (bR hgv))))))))
    · exact bL (bR (bR (bR (bR (bR (bL (bR (bR (bR hgv)))))))))
    · exact bR (bR (bR (bR (bR (bR (bL (bR (bR (bR hgv)))))))))
    · exact bL (bL (bL (bL (bL (bR (bR (bR (bR hgv))))))))
    · exact bR (bL (bL (bL (bL (bR (bR (bR (bR hgv))))))))
    · exact bL (bR (bL (bL (bL (bR (bR (bR (bR hgv))))))))
    · exact bR (bR (bL (bL (bL (bR (bR (bR (bR hgv))))))))
    · exact bL (bL (bR (bL (bL (bR (bR (bR (bR hgv))))))))
    · exact bR (bL (bR (bL (bL (bR (bR (bR (bR hgv))))))))
    · exact bL (bR (bR (bL (bL (bR (bR (bR (bR hgv))))))))
    · exact bL (bR (bR (bR (bL (bL (bR (bR (bR (bR hgv)))))))))
    · omega
  · have hj : j < 0 := hj
    omega
  · exact absurd hi (by unfold nS; omega)
theorem fs_ne (hgv : (Jvm.Cond.and given_1 narrow_1).before args s = true) : ∀ i j : Nat, i < nS → j < nS → i ≠ j → ((Cond.not (Cond.eq (tmS i) (tmS j))).before args s = true ∨ (Cond.not (Cond.eq (tmS j) (tmS i))).before args s = true) := by
  intro i j hi hj hij
  rcases i with _ | _ | _ | _ | _ | _ | _ | _ | _ | _ | _ | _ | _ | _ | _ | i
  · rcases j with _ | _ | _ | _ | _ | _ | _ | _ | _ | _ | _ | _ | _ | _ | _ | j
    · exact absurd rfl hij
    · exact Or.inl (bR (bL (bR (bL (bR (bL (bL (bL (bR hgv)))))))))
    · exact Or.inl (bL (bR (bL (bL (bL (bR (bL (bL (bR hgv)))))))))
    · exact Or.inl (bL (bL (bL (bL (bR (bR (bL (bL (bR hgv)))))))))
    · exact Or.inl (bR (bL (bL (bR (bR (bR (bL (bL (bR hgv)))))))))
    · exact Or.inl (bL (bR (bR (bL (bR (bL (bL (bR (bL (bR hgv))))))))))
    · exact Or.inl (bL (bL (bR (bR (bR (bL (bR (bL (bR hgv)))))))))
    · exact Or.inl (bL (bR (bR (bL (bL (bR (bR (bR (bL (bR hgv))))))))))
    · exact Or.inl (bL (bL (bR (bL (bL (bL (bL (bR (bR hgv)))))))))
    · exact Or.inl (bR (bL (bL (bL (bR (bL (bL (bR (bR hgv)))))))))
    · exact Or.inl (bL (bR (bR (bR (bL (bL (bR (bL (bR (bR hgv))))))))))
    · exact Or.inl (bR (bR (bR (bL (bR (bR (bR (bL (bR (bR hgv))))))))))
    · exact Or.inl (bR (bL (bL (bL (bR (bL (bR (bR (bR hgv)))))))))
    · exact Or.inl (bR (bR (bR (bR (bL (bL (bR (bR (bR (bR hgv))))))))))
    · exact Or.inl (bR (bL (bR (bL (bR (bR (bR (bR (bR hgv)))))))))
    · exact absurd hj (by unfold nS; omega)
  · rcases j with _ | _ | _ | _ | _ | _ | _ | _ | _ | _ | _ | _ | _ | _ | _ | j
    · exact Or.inr (bR (bL (bR (bL (bR (bL (bL (bL (bR hgv)))))))))
    · exact absurd rfl hij
    · exact Or.inl (bR (bR (bL (bL (bL (bR (bL (bL (bR hgv)))))))))
    · exact Or.inl (bR (bL (bL (bL (bR (bR (bL (bL (bR hgv)))))))))
    · exact Or.inl (bL (bR (bL (bR (bR (bR (bL (bL (bR hgv)))))))))
    · exact Or.inl (bR (bR (bR (bL (bR (bL (bL (bR (bL (bR hgv))))))))))
    · exact Or.inl (bR (bL (bR (bR (bR (bL (bR (bL (bR hgv)))))))))
    · exact Or.inl (bR (bR (bR (bL (bL (bR (bR (bR (bL (bR hgv))))))))))
    · exact Or.inl (bR (bL (bR (bL (bL (bL (bL (bR (bR hgv)))))))))
    · exact Or.inl (bL (bR (bL (bL (bR (bL (bL (bR (bR hgv)))))))))
    · exact Or.inl (bR (bR (bR (bR (bL (bL (bR (bL (bR (bR hgv))))))))))
    · exact Or.inl (bL (bL (bR (bR (bR (bR (bL (bR (bR hgv)))))))))
    · exact Or.inl (bL (bR (bL (bL (bR (bL (bR (bR (bR hgv)))))))))
    · exact Or.inl (bL (bL (bL (bR (bL (bR (bR (bR (bR hgv)))))))))
    · exact Or.inl (bL (bR (bR (bL (bR (bR (bR (bR (bR hgv)))))))))
    · exact absurd hj (by unfold nS; omega)
  · rcases j with _ | _ | _ | _ | _ | _ | _ | _ | _ | _ | _ | _ | _ | _ | _ | j
    · exact Or.inr (bL (bR (bL (bL (bL (bR (bL (bL (bR hgv)))))))))
    · exact Or.inr (bR (bR (bL (bL (bL (bR (bL (bL (bR hgv)))))))))
    · exact absurd rfl hij
    · exact Or.inl (bL (bR (bL (bL (bR (bR (bL (bL (bR hgv)))))))))
    · exact Or.inl (bL (bR (bR (bL (bR (bR (bR (bL (bL (bR hgv))))))))))
    · exact Or.inl (bL (bL (bR (bR (bL (bL (bR (bL (bR hgv)))))))))
    · exact Or.inl (bL (bR (bR (bR (bR (bL (bR (bL (bR hgv)))))))))
    · exact Or.inl (bL (bL (bR (bL (bR (bR (bR (bL (bR hgv)))))))))
    · exact Or.inl (bL (bR (bR (bL (bL (bL (bL (bR (bR hgv)))))))))
    · exact Or.inl (bR (bR (bL (bL (bR (bL (bL (bR (bR hgv)))))))))
    · exact Or.inl (bL (bL (bL (bR (bL (bR (bL (bR (bR hgv)))))))))
    · exact Or.inl (bR (bL (bR (bR (bR (bR (bL (bR (bR hgv)))))))))
    · exact Or.inl (bL (bR (bR (bL (bL (bR (bL (bR (bR (bR hgv))))))))))
    · exact Or.inl (bR (bL (bL (bR (bL (bR (bR (bR (bR hgv)))))))))
    · exact Or.inl (bL (bR (bR (bR (bL (bR (bR (bR (bR (bR hgv))))))))))
    · exact absurd hj (by unfold nS; omega)
  · rcases j with _ | _ | _ | _ | _ | _ | _ | _ | _ | _ | _ | _ | _ | _ | _ | j
    · exact Or.inr (bL (bL (bL (bL (bR (bR (bL (bL (bR hgv)))))))))
    · exact Or.inr (bR (bL (bL (bL (bR (bR (bL (bL (bR hgv)))))))))
    · exact Or.inr (bL (bR (bL (bL (bR (bR (bL (bL (bR hgv)))))))))
    · exact absurd rfl hij
    · exact Or.inl (bR (bR (bR (bL (bR (bR (bR (bL (bL (bR hgv))))))))))
    · exact Or.inl (bR (bL (bR (bR (bL (bL (bR (bL (bR hgv)))))))))
    · exact Or.inl (bL (bR (bR (bR (bR (bR (bL (bR (bL (bR hgv))))))))))
    · exact Or.inl (bR (bL (bR (bL (bR (bR (bR (bL (bR hgv)))))))))
    · exact Or.inl (bL (bR (bR (bR (bL (bL (bL (bL (bR (bR hgv))))))))))
    · exact Or.inl (bL (bL (bR (bL (bR (bL (bL (bR (bR hgv)))))))))
    · exact Or.inl (bR (bL (bL (bR (bL (bR (bL (bR (bR hgv)))))))))
    · exact Or.inl (bL (bR (bR (bR (bR (bR (bL (bR (bR hgv)))))))))
    · exact Or.inl (bR (bR (bR (bL (bL (bR (bL (bR (bR (bR hgv))))))))))
    · exact Or.inl (bL (bR (bL (bR (bL (bR (bR (bR (bR hgv)))))))))
    · exact Or.inl (bR (bR (bR (bR (bL (bR (bR (bR (bR (bR hgv))))))))))
    · exact absurd hj (by unfold nS; omega)
  · rcases j with _ | _ | _ | _ | _ | _ | _ | _ | _ | _ | _ | _ | _ | _ | _ | j
    · exact Or.inr (bR (bL (bL (bR (bR (bR (bL (bL (bR hgv)))))))))
    · exact Or.inr (bL (bR (bL (bR (bR (bR (bL (bL (bR hgv)))))))))
    · exact Or.inr (bL (bR (bR (bL (bR (bR (bR (bL (bL (bR hgv))))))))))
    · exact Or.inr (bR (bR (bR (bL (bR (bR (bR (bL (bL (bR hgv))))))))))
    · exact absurd rfl hij
    · exact Or.inl (bL (bR (bR (bR (bL (bL (bR (bL (bR hgv)))))))))
    · exact Or.inl (bR (bR (bR (bR (bR (bR (bL (bR (bL (bR hgv))))))))))
    · exact Or.inl (bL (bR (bR (bL (bR (bR (bR (bL (bR hgv)))))))))
    · exact Or.inl (bR (bR (bR (bR (bL (bL (bL (bL (bR (bR hgv))))))))))
    · exact Or.inl (bR (bL (bR (bL (bR (bL (bL (bR (bR hgv)))))))))
    · exact Or.inl (bL (bR (bL (bR (bL (bR (bL (bR (bR hgv)))))))))
    · exact Or.inl (bL (bR (bR (bR (bR (bR (bR (bL (bR (bR hgv))))))))))
    · exact Or.inl (bL (bL (bR (bL (bR (bL (bR (bR (bR hgv)))))))))
    · exact Or.inl (bL (bR (bR (bL (bR (bL (bR (bR (bR (bR hgv))))))))))
    · exact Or.inl (bL (bL (bL (bR (bR (bR (bR (bR (bR hgv)))))))))
    · exact absurd hj (by unfold nS; omega)
  · rcases j with _ | _ | _ | _ | _ | _ | _ | _ | _ | _ | _ | _ | _ | _ | _ | j
    · exact Or.inr (bL (bR (bR (bL (bR (bL (bL (bR (bL (bR hgv))))))))))
    · exact Or.inr (bR (bR (bR (bL (bR (bL (bL (bR (bL (bR hgv))))))))))
    · exact Or.inr (bL (bL (bR (bR (bL (bL (bR (bL (bR hgv)))))))))
    · exact Or.inr (bR (bL (bR (bR (bL (bL (bR (bL (bR hgv)))))))))
    · exact Or.inr (bL (bR (bR (bR (bL (bL (bR (bL (bR hgv)))))))))
    · exact absurd rfl hij
    · exact Or.inl (bL (bL (bL (bL (bL (bR (bR (bL (bR hgv)))))))))
    · exact Or.inl (bL (bR (bR (bR (bL (bR (bR (bR (bL (bR hgv))))))))))
    · exact Or.inl (bL (bL (bL (bR (bL (bL (bL (bR (bR hgv)))))))))
    · exact Or.inl (bL (bR (bR (bL (bR (bL (bL (bR (bR hgv)))))))))
    · exact Or.inl (bL (bR (bR (bL (bR (bL (bR (bL (bR (bR hgv))))))))))
    · exact Or.inl (bR (bR (bR (bR (bR (bR (bR (bL (bR (bR hgv))))))))))
    · exact Or.inl (bR (bL (bR (bL (bR (bL (bR (bR (bR hgv)))))))))
    · exact Or.inl (bR (bR (bR (bL (bR (bL (bR (bR (bR (bR hgv))))))))))
    · exact Or.inl (bR (bL (bL (bR (bR (bR (bR (bR (bR hgv)))))))))
    · exact absurd hj (by unfold nS; omega)
  · rcases j with _ | _ | _ | _ | _ | _ | _ | _ | _ | _ | _ | _ | _ | _ | _ | j
    · exact Or.inr (bL (bL (bR (bR (bR (bL (bR (bL (bR hgv)))))))))
    · exact Or.inr (bR (bL (bR (bR (bR (bL (bR (bL (bR hgv)))))))))
    · exact Or.inr (bL (bR (bR (bR (bR (bL (bR (bL (bR hgv)))))))))
    · exact Or.inr (bL (bR (bR (bR (bR (bR (bL (bR (bL (bR hgv))))))))))
    · exact Or.inr (bR (bR (bR (bR (bR (bR (bL (bR (bL (bR hgv))))))))))
    · exact Or.inr (bL (bL (bL (bL (bL (bR (bR (bL (bR hgv)))))))))
    · exact absurd rfl hij
    · exact Or.inl (bR (bR (bR (bR (bL (bR (bR (bR (bL (bR hgv))))))))))
    · exact Or.inl (bR (bL (bL (bR (bL (bL (bL (bR (bR hgv)))))))))
    · exact Or.inl (bL (bR (bR (bR (bL (bR (bL (bL (bR (bR hgv))))))))))
    · exact Or.inl (bR (bR (bR (bL (bR (bL (bR (bL (bR (bR hgv))))))))))
    · exact Or.inl (bL (bL (bL (bL (bL (bL (bR (bR (bR hgv)))))))))
    · exact Or.inl (bL (bR (bR (bL (bR (bL (bR (bR (bR hgv)))))))))
    · exact Or.inl (bL (bL (bR (bR (bL (bR (bR (bR (bR hgv)))))))))
    · exact Or.inl (bL (bR (bL (bR (bR (bR (bR (bR (bR hgv)))))))))
    · exact absurd hj (by unfold nS; omega)
  · rcases j with _ | _ | _ | _ | _ | _ | _ | _ | _ | _ | _ | _ | _ | _ | _ | j
    · exact Or.inr (bL (bR (bR (bL (bL (bR (bR (bR (bL (bR hgv))))))))))
    · exact Or.inr (bR (bR (bR (bL (bL (bR (bR (bR (bL (bR hgv))))))))))
    · exact Or.inr (bL (bL (bR (bL (bR (bR (bR (bL (bR hgv)))))))))
    · exact Or.inr (bR (bL (bR (bL (bR (bR (bR (bL (bR hgv)))))))))
    · exact Or.inr (bL (bR (bR (bL (bR (bR (bR (bL (bR hgv)))))))))
    · exact Or.inr (bL (bR (bR (bR (bL (bR (bR (bR (bL (bR hgv))))))))))
    · exact Or.inr (bR (bR (bR (bR (bL (bR (bR (bR (bL (bR hgv))))))))))
    · exact absurd rfl hij
    · exact Or.inl (bL (bR (bL (bR (bL (bL (bL (bR (bR hgv)))))))))
    · exact Or.inl (bR (bR (bR (bR (bL (bR (bL (bL (bR (bR hgv))))))))))
    · exact Or.inl (bL (bL (bR (bR (bL (bR (bL (bR (bR hgv)))))))))
    · exact Or.inl (bR (bL (bL (bL (bL (bL (bR (bR (bR hgv)))))))))
    · exact Or.inl (bL (bR (bR (bR (bL (bR (bL (bR (bR (bR hgv))))))))))
    · exact Or.inl (bR (bL (bR (bR (bL (bR (bR (bR (bR hgv)))))))))
    · exact Or.inl (bL (bR (bR (bL (bR (bR (bR (bR (bR (bR hgv))))))))))
    · exact absurd hj (by unfold nS; omega)
  · rcases j with _ | _ | _ | _ | _ | _ | _ | _ | _ | _ | _ | _ | _ | _ | _ | j
    · exact Or.inr (bL (bL (bR (bL (bL (bL (bL (bR (bR hgv)))))))))
    · exact Or.inr (bR (bL (bR (bL (bL (bL (bL (bR (bR hgv)))))))))
    · exact Or.inr (bL (bR (bR (bL (bL (bL (bL (bR (bR hgv)))))))))
    · exact Or.inr (bL (bR (bR (bR (bL (bL (bL (bL (bR (bR hgv))))))))))
    · exact Or.inr (bR (bR (bR (bR (bL (bL (bL (bL (bR (bR hgv))))))))))
    · exact Or.inr (bL (bL (bL (bR (bL (bL (bL (bR (bR hgv)))))))))
    · exact Or.inr (bR (bL (bL (bR (bL (bL (bL (bR (bR hgv)))))))))
    · exact Or.inr (bL (bR (bL (bR (bL (bL (bL (bR (bR hgv)))))))))
    · exact absurd rfl hij
    · exact Or.inl (bL (bL (bL (bR (bR (bL (bL (bR (bR hgv)))))))))
    · exact Or.inl (bR (bL (bR (bR (bL (bR (bL (bR (bR hgv)))))))))
    · exact Or.inl (bL (bR (bL (bL (bL (bL (bR (bR (bR hgv)))))))))
    · exact Or.inl (bR (bR (bR (bR (bL (bR (bL (bR (bR (bR hgv))))))))))
    · exact Or.inl (bL (bR (bR (bR (bL (bR (bR (bR (bR hgv)))))))))
    · exact Or.inl (bR (bR (bR (bL (bR (bR (bR (bR (bR (bR hgv))))))))))
    · exact absurd hj (by unfold nS; omega)
  · rcases j with _ | _ | _ | _ | _ | _ | _ | _ | _ | _ | _ | _ | _ | _ | _ | j
    · exact Or.inr (bR (bL (bL (bL (bR (bL (bL (bR (bR hgv)))))))))
    · exact Or.inr (bL (bR (bL (bL (bR (bL (bL (bR (bR hgv)))))))))
    · exact Or.inr (bR (bR (bL (bL (bR (bL (bL (bR (bR hgv)))))))))
    · exact Or.inr (bL (bL (bR (bL (bR (bL (bL (bR (bR hgv)))))))))
    · exact Or.inr (bR (bL (bR (bL (bR (bL (bL (bR (bR hgv)))))))))
    · exact Or.inr (bL (bR (bR (bL (bR (bL (bL (bR (bR hgv)))))))))
    · exact Or.inr (bL (bR (bR (bR (bL (bR (bL (bL (bR (bR hgv))))))))))
    · exact Or.inr (bR (bR (bR (bR (bL (bR (bL (bL (bR (bR hgv))))))))))
    · exact Or.inr (bL (bL (bL (bR (bR (bL (bL (bR (bR hgv)))))))))
    · exact absurd rfl hij
    · exact Or.inl (bL (bR (bR (bR (bL (bR (bL (bR (bR hgv)))))))))
    · exact Or.inl (bR (bR (bL (bL (bL (bL (bR (bR (bR hgv)))))))))
    · exact Or.inl (bL (bL (bL (bR (bR (bL (bR (bR (bR hgv)))))))))
    · exact Or.inl (bL (bR (bR (bR (bR (bL (bR (bR (bR (bR hgv))))))))))
    · exact Or.inl (bL (bL (bR (bR (bR (bR (bR (bR (bR hgv)))))))))
    · exact absurd hj (by unfold nS; omega)
  · rcases j with _ | _ | _ | _ | _ | _ | _ | _ | _ | _ | _ | _ | _ | _ | _ | j
    · exact Or.inr (bL (bR (bR (bR (bL (bL (bR (bL (bR (bR hgv))))))))))
    · exact Or.inr (bR (bR (bR (bR (bL (bL (bR (bL (bR (bR hgv))))))))))
    · exact Or.inr (bL (bL (bL (bR (bL (bR (bL (bR (bR hgv)))))))))
    · exact Or.inr (bR (bL (bL (bR (bL (bR (bL (bR (bR hgv)))))))))
    · exact Or.inr (bL (bR (bL (bR (bL (bR (bL (bR (bR hgv)))))))))
    · exact Or.inr (bL (bR (bR (bL (bR (bL (bR (bL (bR (bR hgv))))))))))
    · exact Or.inr (bR (bR (bR (bL (bR (bL (bR (bL (bR (bR hgv))))))))))
    · exact Or.inr (bL (bL (bR (bR (bL (bR (bL (bR (bR hgv)))))))))
    · exact Or.inr (bR (bL (bR (bR (bL (bR (bL (bR (bR hgv)))))))))
    · exact Or.inr (bL (bR (bR (bR (bL (bR (bL (bR (bR hgv)))))))))
    · exact absurd rfl hij
    · exact Or.inl (bL (bL (bR (bL (bL (bL (bR (bR (bR hgv)))))))))
    · exact Or.inl (bR (bL (bL (bR (bR (bL (bR (bR (bR hgv)))))))))
    · exact Or.inl (bR (bR (bR (bR (bR (bL (bR (bR (bR (bR hgv))))))))))
    · exact Or.inl (bR (bL (bR (bR (bR (bR (bR (bR (bR hgv)))))))))
    · exact absurd hj (by unfold nS; omega)
  · rcases j with _ | _ | _ | _ | _ | _ | _ | _ | _ | _ | _ | _ | _ | _ | _ | j
    · exact Or.inr (bR (bR (bR (bL (bR (bR (bR (bL (bR (bR hgv))))))))))
    · exact Or.inr (bL (bL (bR (bR (bR (bR (bL (bR (bR hgv)))))))))
    · exact Or.inr (bR (bL (bR (bR (bR (bR (bL (bR (bR hgv)))))))))
    · exact Or.inr (bL (bR (bR (bR (bR (bR (bL (bR (bR hgv)))))))))
    · exact Or.inr (bL (bR (bR (bR (bR (bR (bR (bL (bR (bR hgv))))))))))
    · exact Or.inr (bR (bR (bR (bR (bR (bR (bR (bL (bR (bR hgv))))))))))
    · exact Or.inr (bL (bL (bL (bL (bL (bL (bR (bR (bR hgv)))))))))
    · exact Or.inr (bR (bL (bL (bL (bL (bL (bR (bR (bR hgv)))))))))
    · exact Or.inr (bL (bR (bL (bL (bL (bL (bR (bR (bR hgv)))))))))
    · exact Or.inr (bR (bR (bL (bL (bL (bL (bR (bR (bR hgv)))))))))
    · exact Or.inr (bL (bL (bR (bL (bL (bL (bR (bR (bR hgv)))))))))
    · exact absurd rfl hij
    · exact Or.inl (bL (bR (bL (bR (bR (bL (bR (bR (bR hgv)))))))))
    · exact Or.inl (bL (bL (bL (bL (bR (bR (bR (bR (bR hgv)))))))))
    · exact Or.inl (bL (bR (bR (bR (bR (bR (bR (bR (bR hgv)))))))))
    · exact absurd hj (by unfold nS; omega)
  · rcases j with _ | _ | _ | _ | _ | _ | _ | _ | _ | _ | _ | _ | _ | _ | _ | j
    · exact Or.inr (bR (bL (bL (bL (bR (bL (bR (bR (bR hgv)))))))))
    · exact Or.inr (bL (bR (bL (bL (bR (bL (bR (bR (bR hgv)))))))))
    · exact Or.inr (bL (bR (bR (bL (bL (bR (bL (bR (bR (bR hgv))))))))))
    · exact Or.inr (bR (bR (bR (bL (bL (bR (bL (bR (bR (bR hgv))))))))))
    · exact Or.inr (bL (bL (bR (bL (bR (bL (bR (bR (bR hgv)))))))))
    · exact Or.inr (bR (bL (bR (bL (bR (bL (bR (bR (bR hgv)))))))))
    · exact Or.inr (bL (bR (bR (bL (bR (bL (bR (bR (bR hgv)))))))))
    · exact Or.inr (bL (bR (bR (bR (bL (bR (bL (bR (bR (bR hgv))))))))))
    · exact Or.inr (bR (bR (bR (bR (bL (bR (bL (bR (bR (bR hgv))))))))))
    · exact Or.inr (bL (bL (bL (bR (bR (bL (bR (bR (bR hgv)))))))))
    · exact Or.inr (bR (bL (bL (bR (bR (bL (bR (bR (bR hgv)))))))))
    · exact Or.inr (bL (bR (bL (bR (bR (bL (bR (bR (bR hgv)))))))))
    · exact absurd rfl hij
    · exact Or.inl (bR (bL (bL (bL (bR (bR (bR (bR (bR hgv)))))))))
    · exact Or.inl (bL (bR (bR (bR (bR (bR (bR (bR (bR (bR hgv))))))))))
    · exact absurd hj (by unfold nS; omega)
  · rcases j with _ | _ | _ | _ | _ | _ | _ | _ | _ | _ | _ | _ | _ | _ | _ | j
    · exact Or.inr (bR (bR (bR (bR (bL (bL (bR (bR (bR (bR hgv))))))))))
    · exact Or.inr (bL (bL (bL (bR (bL (bR (bR (bR (bR hgv)))))))))
    · exact Or.inr (bR (bL (bL (bR (bL (bR (bR (bR (bR hgv)))))))))
    · exact Or.inr (bL (bR (bL (bR (bL (bR (bR (bR (bR hgv)))))))))
    · exact Or.inr (bL (bR (bR (bL (bR (bL (bR (bR (bR (bR hgv))))))))))
    · exact Or.inr (bR (bR (bR (bL (bR (bL (bR (bR (bR (bR hgv))))))))))
    · exact Or.inr (bL (bL (bR (bR (bL (bR (bR (bR (bR hgv)))))))))
    · exact Or.inr (bR (bL (bR (bR (bL (bR (bR (bR (bR hgv)))))))))
    · exact Or.inr (bL (bR (bR (bR (bL (bR (bR (bR (bR hgv)))))))))
    · exact Or.inr (bL (bR (bR (bR (bR (bL (bR (bR (bR (bR hgv))))))))))
    · exact Or.inr (bR (bR (bR (bR (bR (bL (bR (bR (bR (bR hgv))))))))))
    · exact Or.inr (bL (bL (bL (bL (bR (bR (bR (bR (bR hgv)))))))))
    · exact Or.inr (bR (bL (bL (bL (bR (bR (bR (bR (bR hgv)))))))))
    · exact absurd rfl hij
    · exact Or.inl (bR (bR (bR (bR (bR (bR (bR (bR (bR (bR hgv))))))))))
    · exact absurd hj (by unfold nS; omega)
  · rcases j with _ | _ | _ | _ | _ | _ | _ | _ | _ | _ | _ | _ | _ | _ | _ | j
    · exact Or.inr (bR (bL (bR (bL (bR (bR (bR (bR (bR hgv)))))))))
    · exact Or.inr (bL (bR (bR (bL (bR (bR (bR (bR (bR hgv)))))))))
    · exact Or.inr (bL (bR (bR (bR (bL (bR (bR (bR (bR (bR hgv))))))))))
    · exact Or.inr (bR (bR (bR (bR (bL (bR (bR (bR (bR (bR hgv))))))))))
    · exact Or.inr (bL (bL (bL (bR (bR (bR (bR (bR (bR hgv)))))))))
    · exact Or.inr (bR (bL (bL (bR (bR (bR (bR (bR (bR hgv)))))))))
    · exact Or.inr (bL (bR (bL (bR (bR (bR (bR (bR (bR hgv)))))))))
    · exact Or.inr (bL (bR (bR (bL (bR (bR (bR (bR (bR (bR hgv))))))))))
    · exact Or.inr (bR (bR (bR (bL (bR (bR (bR (bR (bR (bR hgv))))))))))
    · exact Or.inr (bL (bL (bR (bR (bR (bR (bR (bR (bR hgv)))))))))
    · exact Or.inr (bR (bL (bR (bR (bR (bR (bR (bR (bR hgv)))))))))
    · exact Or.inr (bL (bR (bR (bR (bR (bR (bR (bR (bR hgv)))))))))
    · exact Or.inr (bL (bR (bR (bR (bR (bR (bR (bR (bR (bR hgv))))))))))
    · exact Or.inr (bR (bR (bR (bR (bR (bR (bR (bR (bR (bR hgv))))))))))
    · exact absurd rfl hij
    · exact absurd hj (by unfold nS; omega)
  · exact absurd hi (by unfold nS; omega)
theorem fs_cs (hgv : (Jvm.Cond.and given_1 narrow_1).before args s = true) : (Cond.eq (.static "java/lang/String" "COMPACT_STRINGS" "Z") (.int 1)).before args s = true := bL (bR (bL (bL (bL (bL (bL (bL (bR hgv))))))))
theorem fs_fm (hgv : (Jvm.Cond.and given_1 narrow_1).before args s = true) : (Cond.isRef (.static "jdk/internal/util/Preconditions" "SIOOBE_FORMATTER" "Ljava/util/function/BiFunction;")).before args s = true := bR (bR (bL (bL (bL (bL (bL (bL (bR hgv))))))))

end FS
theorem st_EX {args : Array Value} {s : State} (hts : ∀ w ∈ lw_tbl, w.before args s = true) (hgv : (Jvm.Cond.and given_1 narrow_1).before args s = true) : ∃ (adK adV : Nat → Nat) (fmt : Option Nat), ∀ (D : va_G) (AK : Nat → ClassId) (ad : Nat → Nat), EX (D, AK, adK, adV, fmt, ad) (fun q => s.heap.size ≤ q) s := by
  have hA : ∀ a : Nat, a < s.heap.size → ¬ s.heap.size ≤ a := fun a h1 h2 => by omega
  obtain ⟨adK, adV, hS, hT⟩ := vk_Sof (args := args) (s := s) (N := nS) (tm := tmS) (len := lenS) (byt := bytS) (A := fun q => s.heap.size ≤ q) (by decide +kernel) (fs_ex hgv) (fs_co hgv) (fs_ar hgv) (fs_le hgv) (fs_el hgv) (fs_ne hgv) hA
  have hZ := va_Zof (A := fun q => s.heap.size ≤ q) (hts _ (List.mem_append_right _ (in_t1 (List.mem_of_getElem? (i := 167) rfl)))) (hts _ (List.mem_append_right _ (in_t1 (List.mem_of_getElem? (i := 11) rfl)))) (va_eqi (fs_cs hgv)) hA
  have hF := va_Zqof (A := fun q => s.heap.size ≤ q) (hts _ (List.mem_append_right _ (in_t3 (List.mem_of_getElem? (i := 55) rfl)))) (hts _ (List.mem_append_right _ (in_t1 (List.mem_of_getElem? (i := 15) rfl)))) (fs_fm hgv) hA
  have hN : NW s := fun q hq => va_Nw.of rfl (hts _ (List.mem_append_right _ (st_nests q hq)))
  have hR : ∀ i, i < nS → vk_R (ownS i) (ixS i) (txS i) (adK i) s := fun i hi => vk_R.of (A := args) (hts _ (List.mem_append_right _ (st_str hi))) (hT i hi)
  rcases hF with hF | ⟨t, hF⟩
  · exact ⟨adK, adV, none, fun D AK ad => ⟨hN, hS, hR, hZ, hF⟩⟩
  · exact ⟨adK, adV, some t, fun D AK ad => ⟨hN, hS, hR, hZ, hF⟩⟩

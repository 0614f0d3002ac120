/-! what the tables and the Statement give at the law's entry -/
theorem lw_arr {s : State} {args : Array Value} {ty : FieldType} (h : (Cond.arrayClass ty).before args s = true) (hty : ∀ C, ty ≠ .object C) : ∃ cA : ClassId, ArrOfT s cA ty ∧ va_RA s cA ty := by
  obtain ⟨cA, kA, comp, h1, h2, h3⟩ := Cond.arrayClass_spec h
  refine ⟨cA, fun n z => ⟨fun k h => (by cases h), kA, h2, comp, h3⟩, ?_⟩
  cases ty with
  | object C => exact absurd rfl (hty C)
  | _ => exact h1
theorem lw_txt_in : ∀ q ∈ xTexts, Cond.stringRef RX3 q.1 q.2 ∈ lw_tbl := by decide +kernel
theorem lw_bad_in : ∀ w ∈ xBad, w ∈ lw_tbl := by decide +kernel
theorem lw_bad_ot : ∀ w ∈ xBad, w.onTables = true := by decide +kernel
theorem lw_facts {s : State} {b : Nat} (hts : ∀ w ∈ lw_tbl, w.before #[Value.ref b] s = true) (hgv : (Jvm.Cond.and given_1 narrow_1).before #[Value.ref b] s = true) : ∃ (D : va_G) (cI cZ : ClassId), va_K D vwCl [(cI, .int), (cZ, .boolean)] s ∧ xNc s ∧ ∀ a a2 : Nat → Nat, xThF (D, (cI, cZ), s.heap.size, a, a2) s := by
  have hs := flat_of_before _ hgv
  have hl : ∀ w ∈ wsL_law, w.before #[Value.ref b] s = true := fun w h => hts w (wsL_law_in w h)
  have i0 : (Cond.instantiable RX0 1).before #[Value.ref b] s = true := hts _ (by decide +kernel)
  have i1 : (Cond.instantiable RX1 5).before #[Value.ref b] s = true := hts _ (by decide +kernel)
  have i2 : (Cond.instantiable RX2 2).before #[Value.ref b] s = true := hts _ (by decide +kernel)
  have i3 : (Cond.instantiable RX3 19).before #[Value.ref b] s = true := hts _ (by decide +kernel)
  obtain ⟨c0, f0, h0⟩ := u_known hl inlX0 i0
  obtain ⟨c1, f1, h1⟩ := u_known hl inlX1 i1
  obtain ⟨c2, f2, h2⟩ := u_known hl inlX2 i2
  obtain ⟨c3, f3, h3⟩ := u_known hl inlX3 i3
  obtain ⟨cI, aI⟩ := lw_arr (ty := .int) (hts (Cond.arrayClass .int) (by decide +kernel)) (fun C h => by cases h)
  obtain ⟨cZ, aZ⟩ := lw_arr (ty := .boolean) (hts (Cond.arrayClass .boolean) (by decide +kernel)) (fun C h => by cases h)
  refine ⟨(fun k => match k with | 0 => c0 | 1 => c1 | 2 => c2 | _ => c3, fun k => match k with | 0 => f0 | 1 => f1 | 2 => f2 | _ => f3), cI, cZ, ⟨?_, ?_⟩, ?_, ?_⟩
  · intro k q hq
    match k, hq with
    | 0, hq => cases hq; exact h0
    | 1, hq => cases hq; exact h1
    | 2, hq => cases hq; exact h2
    | 3, hq => cases hq; exact h3
    | k + 4, hq => simp [vwCl] at hq
  · intro k q hq
    match k, hq with
    | 0, hq => cases hq; exact aI
    | 1, hq => cases hq; exact aZ
    | k + 2, hq => simp at hq
  · exact ⟨va_Nc.of (hs (Cond.not (.castable xIA xIO)) (by decide +kernel)), va_Nc.of (hs (Cond.not (.castable xIS xIO)) (by decide +kernel)), va_Nc.of (hs (Cond.not (.castable xIS xIA)) (by decide +kernel))⟩
  · intro a a2
    have hA : ∀ q : Nat, q < s.heap.size → ¬ (s.heap.size ≤ q) := fun q h1 h2 => by omega
    refine ⟨⟨vx_Zqof (hts _ (by decide +kernel)) (hts _ (by decide +kernel)) (hs _ (by decide +kernel)) hA, vx_Zqof (hts _ (by decide +kernel)) (hts _ (by decide +kernel)) (hs _ (by decide +kernel)) hA⟩, fun q hq => ?_, fun w hw => va_Nw.of (lw_bad_ot w hw) (hts w (lw_bad_in w hw))⟩
    obtain ⟨cc, kk, hf, -⟩ := Cond.instantiable_spec i3
    have hst := hts _ (lw_txt_in q hq)
    obtain ⟨k, cf, i, a9, -, -, -, -, -, hev⟩ := Cond.stringRef_spec hf hst
    exact ⟨a9, vk_R.of hst hev⟩
theorem lw_nest : Cond.methodLinkNest RX3 59 yX1_init RX3 ∈ lw_tbl := by decide +kernel

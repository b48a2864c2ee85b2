/-- the law's words by segments -/
theorem goodIn_s {big : List Cond} (S : List (List Cond)) (hS : ∀ s ∈ S, ∀ w ∈ s, w ∈ big) (ws : List Cond) (ps : List (Nat × Nat)) (hp : ws = ps.filterMap (fun i => (S[i.1]?).bind (fun s => s[i.2]?))) (h : ws.all goodWord = true) : GoodIn big ws := by
  intro w hw
  have h1 := List.all_eq_true.mp h w hw
  rw [hp] at hw
  obtain ⟨i, -, hi⟩ := List.mem_filterMap.mp hw
  obtain ⟨s, h2, h3⟩ := Option.bind_eq_some_iff.mp hi
  exact ⟨hS s (List.mem_of_getElem? h2) w (List.mem_of_getElem? h3), good_of_word h1⟩
def wsL_S : List (List Cond) := [wsL_law0_r1, wsL_law0_r2, wsL_law0_r3, wsL_law0_r4, wsL_law0_r5, wsL_law0_r6, wsL_law0_r7, wsL_law0_r8, wsL_law0_r9, wsL_law0_r10, wsL_law0_r11, wsL_law0_r12, wsL_law0_r13, wsL_law0_r14, wsL_law0_r15, wsL_law0_r16, wsL_law0_r17, wsL_law0_r18, wsL_law0_r19, wsL_law0_r20, wsL_law0_r21, wsL_law0_r22, wsL_law0_r23, wsL_law0_r24, wsL_law0_r25, wsL_law0_r26, wsL_law0_r27, wsL_law0_r28, wsL_law0_r29, wsL_law0_r30, wsL_law0_r31, wsL_law0_r32, wsL_law0_r33, wsL_law0_r34, wsL_law0_r35, wsL_law0_r36, wsL_law0_r37, wsL_law0_r38, wsL_law0_r39, wsL_law0_r40, wsL_law0_r41, wsL_law0_r42, wsL_law0_r43, wsL_law0_r44, wsL_law0_r45, wsL_law0_r46, wsL_law0_r47, wsL_law0_r48, wsL_law0_r49, wsL_law0_r50, wsL_law0_r51, wsL_law0_r52, wsL_law0_r53, wsL_law0_r54, wsL_law0_r55, wsL_law0_r56, wsL_law0_r57, wsL_law0_r58, wsL_law0_r59, wsL_law0_r60, wsL_law0_r61, wsX60, wsX70, wsX00, wsX20, wsX30, wsX50, wsX40, wsX10]
theorem wsL_S_e : wsL_S.flatten = wsL_law0 := by
  unfold wsL_S wsL_law0
  simp only [List.flatten_cons, List.flatten_nil, List.append_assoc, List.append_nil]
theorem wsL_S_in : ∀ s ∈ wsL_S, ∀ w ∈ s, w ∈ wsL_law := fun s hs w hw => List.mem_append_left _ (List.mem_append_left _ (List.mem_append_left _ (by
  rw [← wsL_S_e]
  exact List.mem_flatten.mpr ⟨s, hs, hw⟩)))

/-! The large method's word: taken at its place, not compared. -/
def x_ckG (M : xM) : Bool := plainName M.1.cls && (decide (M.1.cls ≠ "java/lang/invoke/MethodHandle") && (decide (M.1.cls ≠ "java/lang/invoke/VarHandle") && (decide (M.2.2.2.2.1 = 2 → M.1.name = "<init>") && decide (M.2.2.1 ≤ 45))))
theorem x_okM_of {Ts : List Jvm.Cond} {M : xM} (h1 : Cond.code M.1 M.2.1 M.2.2.1 M.2.2.2.1 ∈ Ts) (h : x_ckG M = true) (hR : x_ckR M.2.1 M.2.2.2.2.2.1 = true) : x_okM Ts M := by
  unfold x_ckG at h
  simp only [Bool.and_eq_true] at h
  obtain ⟨h2, h3, h4, h5, h6⟩ := h
  refine ⟨h1, h2, ⟨of_decide_eq_true h3, of_decide_eq_true h4⟩, of_decide_eq_true h5, of_decide_eq_true h6, fun q hq => ?_⟩
  have := List.all_eq_true.mp hR q hq
  simp only [Bool.and_eq_true] at this
  exact ⟨of_decide_eq_true this.1, this.2⟩
theorem x_hM410 : Cond.code x_M410.1 x_M410.2.1 x_M410.2.2.1 x_M410.2.2.2.1 ∈ x_big := x_ch_ok 41 _ (List.mem_of_getElem? (i := 200) rfl) rfl

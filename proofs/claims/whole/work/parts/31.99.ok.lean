/-! All methods are what the tables say. -/
theorem x_okT_all : x_okT x_cls x_MT x_big x_nx := by
  have h : ∀ M ∈ x_MT, x_okM x_big M ∧ ∀ q ∈ M.2.2.2.2.2.2.flatten, x_okL x_cls x_MT x_big x_nx M.1.cls q.1 q.2 := by
    unfold x_MT
    exact List.forall_mem_append.mpr ⟨List.forall_mem_append.mpr ⟨List.forall_mem_append.mpr ⟨List.forall_mem_append.mpr ⟨List.forall_mem_append.mpr ⟨List.forall_mem_append.mpr ⟨List.forall_mem_append.mpr ⟨List.forall_mem_append.mpr ⟨List.forall_mem_append.mpr ⟨List.forall_mem_append.mpr ⟨List.forall_mem_append.mpr ⟨List.forall_mem_append.mpr ⟨x_okK0, x_okK1⟩, x_okK2⟩, x_okK3⟩, x_okK4⟩, x_okK5⟩, x_okK6⟩, x_okK7⟩, x_okK8⟩, x_okK9⟩, x_okK10⟩, x_okK11⟩, x_okK12⟩
  exact fun j M hM => h M (List.mem_of_getElem? hM)

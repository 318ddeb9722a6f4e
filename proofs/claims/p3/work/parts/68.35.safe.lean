/-! SAFETY: commands understood, more -/
theorem kcm_tr {S T U : sS} (h1 : KCM S T) (h2 : KCM T U) (e : Xi T 882 3 = Xi S 882 3) : KCM S U := fun i hi => by
  obtain ⟨a, b⟩ := h1 i hi
  obtain ⟨c, d⟩ := h2 i (by omega)
  exact ⟨c.trans a, d.trans b⟩


/-! SAFETY: told sentences, more -/
theorem asu_t {l : List rec} {S T : sS} {a b nt : Int} (h : FR l S T) (e : (kdis l kA && !(mdf l 1 3)) = true) (e2 : (kdis l [(877, 878)] && !(mdf l 876 7)) = true) (e3 : mdf l 890 3 = false) (e4 : kdis l [(21, 22)] = true) (hs : ASU S a b nt (Xi S 890 3)) : ASU T a b nt (Xi T 890 3) := fun r h1 h2 h3 h4 => by
  rw [h.x 890 3 e3] at h2
  rw [bgn_FR h e2 e3] at h3
  rw [fob_FR h e e2] at h4 ⊢
  rw [raF_FR h e, (h.smk e4).x 21 rfl]
  exact hs r h1 h2 h3 h4


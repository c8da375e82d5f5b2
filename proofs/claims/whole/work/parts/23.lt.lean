theorem zfacetAt_lt {N : Nat} {σ : zS} {v : Int32} {k : Nat} (h : m_X8_facetAt N σ v = some (some k)) : k < 10 := by
  unfold m_X8_facetAt at h
  split at h
  · cases h
  · split at h
    · cases h
    · obtain ⟨b, e, h2⟩ := Option.bind_eq_some_iff.mp h
      cases h2
      exact zrd_lt e

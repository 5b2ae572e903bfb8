theorem pv_same {A : iv_A} {r : Int32} {S : pm_S} (hI : Inv A S) : pv_end A r r S := ⟨rfl, A, hI⟩
theorem pv_sameL {A : iv_A} {r : Int64} {S : pm_S} (hI : Inv A S) : pv_endL A r r S := ⟨rfl, A, hI⟩
theorem pv_to {A : iv_A} {r r' : Int32} {S : pm_S} (hI : Inv A S) (h : r' = r) : pv_end A r r' S := ⟨h, A, hI⟩
theorem pv_toL {A : iv_A} {r r' : Int64} {S : pm_S} (hI : Inv A S) (h : r' = r) : pv_endL A r r' S := ⟨h, A, hI⟩

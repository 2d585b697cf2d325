abbrev zexn : List String := ["java/lang/RuntimeException", "java/lang/Exception"]
set_option maxRecDepth 100000 in
theorem zownM_IllegalStateException : ∀ w ∈ Bundle.ownAtoms0 "ReplacementWriter" 71 "java/lang/IllegalStateException" zexn, w ∈ zHW := by decide +kernel
theorem zown_IllegalStateException {E : zP} {s : State} {H : Heap} {args : Array Value} (hE : zE E s H) : ∀ s' : State, s'.vm = s.vm → s'.heap = H → ∀ w ∈ Bundle.ownAtoms0 "ReplacementWriter" 71 "java/lang/IllegalStateException" zexn, w.before args s' = true := fun s' e1 e2 w hw => hE.more args s' e1 (fun q _ => by rw [e2]) w (zownM_IllegalStateException w hw)
set_option maxRecDepth 100000 in
theorem zownM_IllegalArgumentException : ∀ w ∈ Bundle.ownAtoms0 "ReplacementWriter" 80 "java/lang/IllegalArgumentException" zexn, w ∈ zHW := by decide +kernel
theorem zown_IllegalArgumentException {E : zP} {s : State} {H : Heap} {args : Array Value} (hE : zE E s H) : ∀ s' : State, s'.vm = s.vm → s'.heap = H → ∀ w ∈ Bundle.ownAtoms0 "ReplacementWriter" 80 "java/lang/IllegalArgumentException" zexn, w.before args s' = true := fun s' e1 e2 w hw => hE.more args s' e1 (fun q _ => by rw [e2]) w (zownM_IllegalArgumentException w hw)
set_option maxRecDepth 100000 in
theorem zownM_UnsupportedOperationException : ∀ w ∈ Bundle.ownAtoms0 "ReplacementWriter" 97 "java/lang/UnsupportedOperationException" zexn, w ∈ zHW := by decide +kernel
theorem zown_UnsupportedOperationException {E : zP} {s : State} {H : Heap} {args : Array Value} (hE : zE E s H) : ∀ s' : State, s'.vm = s.vm → s'.heap = H → ∀ w ∈ Bundle.ownAtoms0 "ReplacementWriter" 97 "java/lang/UnsupportedOperationException" zexn, w.before args s' = true := fun s' e1 e2 w hw => hE.more args s' e1 (fun q _ => by rw [e2]) w (zownM_UnsupportedOperationException w hw)
set_option maxRecDepth 100000 in
theorem zownM_IndexOutOfBoundsException : ∀ w ∈ Bundle.ownAtoms0 "ReplacementWriter" 156 "java/lang/IndexOutOfBoundsException" zexn, w ∈ zHW := by decide +kernel
theorem zown_IndexOutOfBoundsException {E : zP} {s : State} {H : Heap} {args : Array Value} (hE : zE E s H) : ∀ s' : State, s'.vm = s.vm → s'.heap = H → ∀ w ∈ Bundle.ownAtoms0 "ReplacementWriter" 156 "java/lang/IndexOutOfBoundsException" zexn, w.before args s' = true := fun s' e1 e2 w hw => hE.more args s' e1 (fun q _ => by rw [e2]) w (zownM_IndexOutOfBoundsException w hw)
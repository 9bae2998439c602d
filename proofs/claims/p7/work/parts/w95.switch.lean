-- the law's switch, its step
section LAWS
variable {p : Program} {l : Launch} {e : Env} {s : State} {m : MethodId} {args : Array Value} {below : List Frame} {meth : Method} {c : Code} {H : Heap} {locs : List Loc} {cells slots : Nat} {ls : Array Slot} {Q : State → Prop} {R : Room}
theorem law_switch (hx : p.tables.exec = Jvm.exec) (hb : c.code = code) (v : Int32) (k0 : W p l e R s m args below meth c H locs cells slots Q (F0 m 96 ls [])) (k1 : W p l e R s m args below meth c H locs cells slots Q (F0 m 172 ls [])) (k2 : W p l e R s m args below meth c H locs cells slots Q (F0 m 197 ls [])) (k3 : W p l e R s m args below meth c H locs cells slots Q (F0 m 210 ls [])) (k4 : W p l e R s m args below meth c H locs cells slots Q (F0 m 223 ls [])) (k5 : W p l e R s m args below meth c H locs cells slots Q (F0 m 236 ls [])) (k6 : W p l e R s m args below meth c H locs cells slots Q (F0 m 292 ls [])) (k7 : W p l e R s m args below meth c H locs cells slots Q (F0 m 305 ls [])) (k8 : W p l e R s m args below meth c H locs cells slots Q (F0 m 333 ls [])) (k9 : W p l e R s m args below meth c H locs cells slots Q (F0 m 373 ls [])) (kd : W p l e R s m args below meth c H locs cells slots Q (F0 m 413 ls [])) : W p l e R s m args below meth c H locs cells slots Q (F0 m 40 ls [.int v]) := by
  by_cases h : v.toInt < 0 ∨ 9 < v.toInt
  · exact lv_tableOut (tgt := 413) hx hb dL_40 h (by decide) kd
  · have h1 : ¬ v.toInt < 0 := fun q => h (Or.inl q)
    have h2 : ¬ 9 < v.toInt := fun q => h (Or.inr q)
    rcases (show v.toInt = 0 ∨ v.toInt = 1 ∨ v.toInt = 2 ∨ v.toInt = 3 ∨ v.toInt = 4 ∨ v.toInt = 5 ∨ v.toInt = 6 ∨ v.toInt = 7 ∨ v.toInt = 8 ∨ v.toInt = 9 by omega) with q | q | q | q | q | q | q | q | q | q
    · exact lv_tableIn (off := 56) (tgt := 96) hx hb dL_40 h1 h2 (by rw [q]; rfl) (by decide) k0
    · exact lv_tableIn (off := 132) (tgt := 172) hx hb dL_40 h1 h2 (by rw [q]; rfl) (by decide) k1
    · exact lv_tableIn (off := 157) (tgt := 197) hx hb dL_40 h1 h2 (by rw [q]; rfl) (by decide) k2
    · exact lv_tableIn (off := 170) (tgt := 210) hx hb dL_40 h1 h2 (by rw [q]; rfl) (by decide) k3
    · exact lv_tableIn (off := 183) (tgt := 223) hx hb dL_40 h1 h2 (by rw [q]; rfl) (by decide) k4
    · exact lv_tableIn (off := 196) (tgt := 236) hx hb dL_40 h1 h2 (by rw [q]; rfl) (by decide) k5
    · exact lv_tableIn (off := 252) (tgt := 292) hx hb dL_40 h1 h2 (by rw [q]; rfl) (by decide) k6
    · exact lv_tableIn (off := 265) (tgt := 305) hx hb dL_40 h1 h2 (by rw [q]; rfl) (by decide) k7
    · exact lv_tableIn (off := 293) (tgt := 333) hx hb dL_40 h1 h2 (by rw [q]; rfl) (by decide) k8
    · exact lv_tableIn (off := 333) (tgt := 373) hx hb dL_40 h1 h2 (by rw [q]; rfl) (by decide) k9
end LAWS

/-! what the leaves answer, in plain words over Int32 -/
def qNum (row col : Int32) : Int32 := if row = -1 then -1 else (row >>> ((col * nI 7) &&& 31)) &&& nI 127
def qRow (x y z : Int32) : Int32 := (x ||| (y <<< (nI 7 &&& 31))) ||| (z <<< (nI 14 &&& 31))
def qMaskN (cs : Int32) : Nat → Int32
  | 0 => nI 0
  | k + 1 => if (cs >>> (nI k &&& 31)) &&& nI 1 = nI 1 then qMaskN cs k ||| (nI 127 <<< (nI (k * 7) &&& 31)) else qMaskN cs k
def qLets (re nu v : Int32) : Prop := if re = nI 1 then v < nu else if re = nI 2 then nu ≤ v else True
noncomputable def qLetB (re nu v : Int32) : Bool := @decide (qLets re nu v) (Classical.propDecidable _)
theorem qLetB_t {re nu v : Int32} (h : qLets re nu v) : qLetB re nu v = true := by unfold qLetB; exact @decide_eq_true _ (Classical.propDecidable _) h
theorem qLetB_f {re nu v : Int32} (h : ¬ qLets re nu v) : qLetB re nu v = false := by unfold qLetB; exact @decide_eq_false _ (Classical.propDecidable _) h
noncomputable def qCho (co re nu ma row : Int32) : Int32 := if row = -1 then -1 else if qLetB re nu (qNum row co) = true then row &&& ma else -1
theorem look_1 {x : Int32} {d o1 o2 : Int} (h : x = nI 1) : Op.lookupswitch.offset [(1, o1), (2, o2)] d x.toInt = o1 := by subst h; rfl
theorem look_2 {x : Int32} {d o1 o2 : Int} (h : x = nI 2) : Op.lookupswitch.offset [(1, o1), (2, o2)] d x.toInt = o2 := by subst h; rfl
theorem look_0 {x : Int32} {d o1 o2 : Int} (h1 : ¬ x = nI 1) (h2 : ¬ x = nI 2) : Op.lookupswitch.offset [(1, o1), (2, o2)] d x.toInt = d := by
  have e1 : ¬ x.toInt = 1 := fun q => h1 (by rw [← Int32.toInt_inj, q]; decide)
  have e2 : ¬ x.toInt = 2 := fun q => h2 (by rw [← Int32.toInt_inj, q]; decide)
  simp [Op.lookupswitch.offset, List.find?, Ne.symm e1, Ne.symm e2, e1, e2]

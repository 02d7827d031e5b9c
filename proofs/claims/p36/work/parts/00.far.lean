/-! a name of the whole library at once: no round over the short one first -/
theorem zz_far : True := (fun _ => trivial) (@Cond.before_shiftedOver)

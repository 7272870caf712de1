/-- read over the whole library from the first part on -/
theorem aa_wide {u U : State} {ty : FieldType} (hvm : u.vm.Alike U.vm) : True := (fun (_ : True) => trivial) (let _ := @Jvm.Stand.arrayOver_alikeB; trivial)

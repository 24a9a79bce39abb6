theorem w9_lib : True := by have _h := @Jvm.Free.Multi.outerC; trivial

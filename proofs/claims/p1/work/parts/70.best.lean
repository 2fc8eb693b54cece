theorem fd_best : (cbO row0 (mB 16) (mV 16) 0 ((-1 : Int32), nI 0, nI 0, mC 16, mB 16, mV 16) 16).1 = (rbst row0 z0 288).1 := by decide +kernel

/-! the end -/
theorem pv_zend : True := trivial

/** Compares answers with what is due, and tells those that are not. */
final class Check {
    interface Call {
        void run();
    }

    private final String title;
    private int made;
    private int wrong;

    Check(String title) {
        this.title = title;
    }

    void same(String what, long got, long due) {
        made++;
        if (got != due) {
            tell(what + " answered " + got + ", due is " + due);
        }
    }

    void sameDouble(String what, double got, double due) {
        made++;
        if (got != due) {
            tell(what + " answered " + got + ", due is " + due);
        }
    }

    void isTrue(String what, boolean holds) {
        made++;
        if (!holds) {
            tell(what + " does not hold");
        }
    }

    /** The call throws exactly this kind, and changes nothing that the canopy tells. */
    void refuses(ZipCanopy canopy, Class<? extends RuntimeException> kind, String what, Call call) {
        made++;
        long before = canopy.digest();
        String thrown = "nothing";
        try {
            call.run();
        } catch (RuntimeException e) {
            thrown = e.getClass().getName();
        }
        if (!thrown.equals(kind.getName())) {
            tell(what + " threw " + thrown + ", due is " + kind.getName());
        }
        if (canopy.digest() != before) {
            tell(what + " changed something");
        }
    }

    private void tell(String text) {
        wrong++;
        System.out.println(title + ": " + text);
    }

    void end() {
        System.out.println(title + ": " + made + " checks, " + wrong + " wrong");
        if (wrong > 0) {
            System.exit(1);
        }
    }
}

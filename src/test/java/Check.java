/** Counts and prints the calls whose answer is not the one that is due. */
final class Check {
    private String place = "";
    private int looked;
    private int wrong;

    void at(String newPlace) {
        place = newPlace;
    }

    void due(String call, long got, long want) {
        looked++;
        if (got != want) {
            wrong++;
            System.out.println(place + ": " + call + " answered " + got + ", due is " + want);
        }
    }

    void holds(String what, boolean itHolds) {
        looked++;
        if (!itHolds) {
            wrong++;
            System.out.println(place + ": " + what);
        }
    }

    boolean isRight() {
        return wrong == 0;
    }

    void close() {
        System.out.println(looked + " looked at, " + wrong + " wrong");
        if (wrong != 0 || looked == 0) {
            System.exit(1);
        }
    }

    static void write(RightsDesk desk, String text) {
        desk.clearText();
        for (int i = 0; i < text.length(); i++) {
            desk.type(text.charAt(i));
        }
    }
}

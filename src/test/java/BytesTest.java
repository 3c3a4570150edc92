/** FAULT at each place of THE TEXT, for all 256 bytes there, and whatever comes behind a fault. */
public final class BytesTest {
    private static final int NONE = Scenes.NONE;
    private static final String[] TAILS = {"", "A", "P", "P00", "P00P00", "F01", "0", "1", "01", "F",
        "\u0000", "\u00ff", "P00P00P00P00P00P00P00F01F10F12"};

    private static final Due due = new Due();

    public static void main(String[] args) {
        partsOfPeople();
        partsOfPairs();
        fullCounties();
        mostBytes();
        onlyNotAtItsEnd();
        due.end();
    }

    private static int faultOf(String text) {
        ArrestOrder x = new ArrestOrder();
        Scenes.put(x, text);
        return x.fault();
    }

    /** Of all bytes just these may come behind it; what then still is wanting makes it no county. */
    private static void next(String text, String bytes, boolean endsThere) {
        int at = text.length();
        for (int letter = 0; letter <= 255; letter++) {
            String longer = text + (char) letter;
            if (bytes.indexOf(letter) >= 0) {
                due.is("4: " + longer, endsThere ? NONE : at + 1, faultOf(longer));
            } else {
                due.is("4: " + text + " and the byte " + letter, at, faultOf(longer));
            }
        }
    }

    /** A PART begins behind a county. */
    private static void begins(String text, String bytes) {
        due.is("4: " + text, NONE, faultOf(text));
        next(text, bytes, false);
        staysAtFault(text, bytes);
    }

    private static void goesOn(String text, String bytes) {
        due.is("4: " + text + ", not at its end", text.length(), faultOf(text));
        next(text, bytes, false);
        staysAtFault(text, bytes);
    }

    private static void ends(String text, String bytes) {
        due.is("4: " + text + ", not at its end", text.length(), faultOf(text));
        next(text, bytes, true);
        staysAtFault(text, bytes);
    }

    private static void staysAtFault(String text, String bytes) {
        for (char wrong : new char[] {'A', 'P', 'F', '0', '1', '3', '4', '9', ':', '/', 0, 255}) {
            for (String tail : TAILS) {
                if (bytes.indexOf(wrong) < 0) {
                    due.is("4: " + text + wrong + tail, text.length(), faultOf(text + wrong + tail));
                }
            }
        }
    }

    private static void partsOfPeople() {
        due.is("4: the empty text is only not at its end", 0, faultOf(""));
        next("", "A", true);
        begins("A", "P");
        goesOn("AP", "0123456789");
        for (char deed = '0'; deed <= '9'; deed++) {
            ends("AP" + deed, "0123");
        }
    }

    private static void partsOfPairs() {
        begins("AP00", "P");
        begins("AP00P00", "PF");
        goesOn("AP00P00F", "01");
        ends("AP00P00F0", "1");
        ends("AP00P00F1", "0");
        begins("AP00P00F01", "PF");
        goesOn("AP00P00F01F", "1");
        ends("AP00P00F01F1", "0");
        begins("AP00P00F01F10", "P");
        begins("AP00P00F01F10P00", "PF");
        goesOn("AP00P00F01F10P00F", "012");
        ends("AP00P00F01F10P00F0", "2");
        ends("AP00P00F01F10P00F1", "2");
        ends("AP00P00F01F10P00F2", "01");
        goesOn("AP00P00F01F10P00F02F", "12");
        ends("AP00P00P00F02F0", "1");
        begins("AP00P00P00F01F02F10F12F20F21", "P");
    }

    private static void fullCounties() {
        String seven = Scenes.alike("P00", 7);
        begins(Scenes.alike("P00", 6), "PF");
        begins(seven, "F");
        goesOn(seven + "F", "0123456");
        ends(seven + "F0", "123456");
        ends(seven + "F6", "012345");
        begins(seven + "F06", "F");
        ends(seven + "F06F0", "12345");
        String feedsAll = seven + "F60F61F62F63F64F65";
        begins(feedsAll, "F");
        goesOn(feedsAll + "F", "012345");
    }

    /** No county has 47 or 48 bytes, but that is no fault of a byte: the length is set aside. */
    private static void mostBytes() {
        String eleven = "AP00P00P00P00F01F02F03F10F12F13F20F21F23F30F31";
        due.is("4: 46 bytes", NONE, faultOf(eleven));
        next(eleven, "PF", false);
        next(eleven + "F", "3", false);
        next(eleven + "P", "0123456789", false);
        due.is("4: 46 bytes, the longest", NONE, faultOf(Scenes.LONGEST));
        next(Scenes.LONGEST, "F", false);
        next(Scenes.LONGEST + "F", "0123456", false);
        ArrestOrder x = new ArrestOrder();
        Scenes.put(x, eleven + "F3");
        due.is("4: a 49th byte does not come", Scenes.FULL, x.write('2'));
        due.is("4: 48 bytes, not at its end", 48, x.fault());
        due.is("4: so it is no county", Scenes.LATE, x.county());
    }

    private static void onlyNotAtItsEnd() {
        for (int length = 0; length <= Scenes.LONGEST.length(); length++) {
            String part = Scenes.LONGEST.substring(0, length);
            due.is("4: " + part, length % 3 == 1 ? NONE : length, faultOf(part));
        }
    }
}

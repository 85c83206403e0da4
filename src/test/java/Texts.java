/** What the classes that test texts share. */
abstract class Texts extends Suite {
    static final int SYNTAX = ConvolutionBench.SYNTAX_ERROR;
    static final int VALUE = ConvolutionBench.VALUE_ERROR;
    static final int MANY = ConvolutionBench.TOO_MANY;
    static final String SIX = "prime 3;prime 5;prime 7;prime 11;prime 13;prime 17;";

    /** A statement with so many terms 1, without its semicolon. */
    static String ones(int count) {
        StringBuilder text = new StringBuilder("sequence 1");
        for (int k = 0; k < count; k++) {
            text.append(" 1");
        }
        return text.toString();
    }
}
